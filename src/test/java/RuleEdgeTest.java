/** Terms of rules and outputs, a poll's part (3), promises 8, 18 and 19: each sentence with its edges. */
public final class RuleEdgeTest {
    public static void main(String[] args) {
        Sentences.end(conditions(), held(), outputs(), forget(), output(), heldOfRule());
    }

    private static Sentences conditions() {
        return new Sentences("Promise 9 (3) (Terms, the rules)")
                .holds("z and a zone (it is in fire)", "that zone alone, in the same poll", RuleEdgeTest::fireOfZone)
                .holds("z and a zone (it is in fire)", "with the zone off", RuleEdgeTest::fireOfZoneOff)
                .holds("w and a zone (WARNING", "that zone alone, in the same poll", RuleEdgeTest::warningOfZone)
                .holds("f (a device is at fault)", "from the second miss to the next answer", RuleEdgeTest::fault)
                .holds("f (a device is at fault)", "any place, off or not", RuleEdgeTest::faultOfAnyPlace)
                .holds("term: z and a zone (it is in fire); w and a zone", "one fact alone, each term",
                        RuleEdgeTest::oneFactAlone)
                .holds("terms with & or | between, from the left, without priority", "& and | of all truths",
                        RuleEdgeTest::andOr)
                .holds("terms with & or | between, from the left, without priority", "& has no priority",
                        RuleEdgeTest::fromTheLeft)
                .holds("! term", "of a term, not of all behind it", RuleEdgeTest::not)
                .holds("( condition )", "before what stands around it", RuleEdgeTest::brackets);
    }

    private static Sentences held() {
        return new Sentences("Promise 9 (3)")
                .holds("Each rule, from 0 on: its HELD becomes one more if its condition is true", "each poll",
                        RuleEdgeTest::heldGrows)
                .holds("Each rule, from 0 on: its HELD becomes one more if its condition is true", "all six rules",
                        RuleEdgeTest::heldOfSix)
                .holds("else 0", "and from 1 on again", RuleEdgeTest::heldBeginsAgain)
                .holds("An output is ON if a rule for it has HELD above its delay.", "HELD just at the delay",
                        RuleEdgeTest::heldAtDelay)
                .holds("An output is ON if a rule for it has HELD above its delay.", "one rule of several is enough",
                        RuleEdgeTest::oneOfSeveral)
                .holds("An output is ON if a rule for it has HELD above its delay.", "off again by itself",
                        RuleEdgeTest::offAgain)
                .holds("An output is ON if a rule for it has HELD above its delay.", "not before a poll",
                        RuleEdgeTest::notBeforeAPoll);
    }

    private static Sentences outputs() {
        return new Sentences("Promise 9 (3)")
                .holds("Outputs are looked at behind all rules, from 0 on", "the order of entries",
                        RuleEdgeTest::outputsInOrder)
                .holds("Outputs are looked at behind all rules, from 0 on", "handed from one rule to another",
                        RuleEdgeTest::handedOver)
                .holds("one that comes on by that is logged (4)", "once, and not when it goes off",
                        RuleEdgeTest::loggedOnce)
                .holds("one that comes on by that is logged (4)", "each time it comes on", RuleEdgeTest::loggedAgain)
                .holds("one that comes on by that is logged (4)", "in silence too", RuleEdgeTest::loggedInSilence);
    }

    private static Sentences forget() {
        return new Sentences("Promise 8")
                .holds("All rules go, and all outputs are off: how many rules there were.", "none, some, six",
                        RuleEdgeTest::howMany)
                .holds("All rules go, and all outputs are off: how many rules there were.", "the rules go",
                        RuleEdgeTest::rulesGo)
                .holds("All rules go, and all outputs are off: how many rules there were.", "the outputs are off",
                        RuleEdgeTest::outputsGoOff)
                .holds("All rules go, and all outputs are off: how many rules there were.", "nothing else goes",
                        RuleEdgeTest::othersStay)
                .holds("LEVEL 2", "levels 0 and 1", RuleEdgeTest::forgetBelowLevelTwo);
    }

    private static Sentences output() {
        return new Sentences("Promise 18")
                .holds("1 if it is on + 2 if it sounds", "neither", RuleEdgeTest::neither)
                .holds("OUTPUTS are 0 .. 5; 0 to 2 are SOUNDERS.", "the last sounder and the first that is none",
                        RuleEdgeTest::lastSounder)
                .holds("While SILENCE is on, sounders don't SOUND, though they are on", "on 1, not 3",
                        RuleEdgeTest::silentSounder)
                .holds("While SILENCE is on, sounders don't SOUND, though they are on",
                        "one that comes on in silence", RuleEdgeTest::soundersInSilence)
                .holds("other outputs that are on, and sounders without silence, do", "silence ended by a fire",
                        RuleEdgeTest::soundAgain)
                .holds("NoSuchElementException", "outputs below 0 and above 5", RuleEdgeTest::noSuchOutput);
    }

    private static Sentences heldOfRule() {
        return new Sentences("Promise 19")
                .holds("HELD of a rule.", "the first and the sixth", RuleEdgeTest::heldOfFirstAndSixth)
                .holds("NoSuchElementException", "no rules at all", RuleEdgeTest::heldOfNone)
                .holds("NoSuchElementException", "below 0 and just behind the last", RuleEdgeTest::heldBehindLast)
                .holds("NoSuchElementException", "six rules, and a seventh asked for", RuleEdgeTest::heldOfSeventh)
                .holds("NoSuchElementException", "rules that are forgotten", RuleEdgeTest::heldOfForgotten);
    }

    /** A button for each zone at its number's place; zone 1's is pressed. */
    private static Real fireInOne() {
        Real panel = Panels.atLevel2();
        for (int zone = 0; zone < 4; zone++) {
            panel.fit(zone, Panels.BUTTON, zone, 1f);
        }
        panel.reading(1, 1f);
        return panel;
    }

    private static int heldWith(Real panel, String condition) {
        Panels.rule(panel, condition + ">3");
        panel.poll();
        return panel.held(0);
    }

    private static void dueTruth(Due due, String condition, boolean want) {
        due.is("held(0) of " + condition, heldWith(fireInOne(), condition), want ? 1 : 0);
    }

    private static void fireOfZone(Due due) {
        for (int zone = 0; zone < 4; zone++) {
            dueTruth(due, "z" + zone, zone == 1);
        }
        Real panel = Panels.atLevel2();
        panel.fit(0, Panels.SMOKE, 1, 80f);
        panel.reading(0, 130f);
        due.is("held(0) of z1 with a warning alone", heldWith(panel, "z1"), 0);
    }

    private static void fireOfZoneOff(Due due) {
        Real panel = fireInOne();
        panel.poll();
        panel.off(true, 1, true);
        due.is("held(0) of z1", heldWith(panel, "z1"), 1);
        panel = fireInOne();
        panel.off(true, 1, true);
        due.is("held(0) of z1, off before", heldWith(panel, "z1"), 0);
    }

    private static void warningOfZone(Due due) {
        for (int zone = 0; zone < 4; zone++) {
            Real panel = Panels.atLevel2();
            panel.fit(9, Panels.SMOKE, 2, 16f);
            panel.reading(9, 24f);
            due.is("held(0) of w" + zone, heldWith(panel, "w" + zone), zone == 2 ? 1 : 0);
        }
        Real panel = Panels.atLevel2();
        panel.fit(9, Panels.SMOKE, 2, 16f);
        panel.reading(9, 24f);
        panel.off(true, 2, true);
        due.is("held(0) of w2 with the zone off", heldWith(panel, "w2"), 1);
        panel = fireInOne();
        panel.poll();
        panel.off(false, 1, true);
        due.is("held(0) of w1 in fire, its button off", heldWith(panel, "w1"), 0);
    }

    private static void fault(Due due) {
        Real panel = fireInOne();
        Panels.rule(panel, "f>4");
        panel.poll();
        due.is("output(4)", panel.output(4), 0);
        panel.wire(0, 2);
        panel.poll();
        due.is("output(4) missed once", panel.output(4), 0);
        panel.poll();
        due.is("output(4) missed twice", panel.output(4), 3);
        panel.wire(0, 0);
        panel.poll();
        due.is("output(4) answered", panel.output(4), 0);
    }

    private static void faultOfAnyPlace(Due due) {
        for (int place : new int[] {0, 15}) {
            Real panel = Panels.atLevel2();
            panel.fit(place, Panels.SMOKE, 0, 1f);
            panel.wire(0, 2);
            panel.poll();
            due.is("held(0) of f by place " + place, heldWith(panel, "f"), 1);
            panel = Panels.atLevel2();
            panel.fit(place, Panels.SMOKE, 0, 1f);
            panel.off(false, place, true);
            panel.wire(0, 2);
            panel.poll();
            due.is("held(0) of f by place " + place + ", off", heldWith(panel, "f"), 1);
        }
    }

    /** Nine facts, one of them true at a time: only the term that asks for it is true. */
    private static void oneFactAlone(Due due) {
        String[] terms = {"z0", "z1", "z2", "z3", "w0", "w1", "w2", "w3", "f"};
        for (int fact = 0; fact < terms.length; fact++) {
            for (int asked = 0; asked < terms.length; asked++) {
                due.is("held(0) of " + terms[asked] + " with " + terms[fact], heldWith(withFact(fact), terms[asked]),
                        asked == fact ? 1 : 0);
            }
        }
    }

    private static Real withFact(int fact) {
        Real panel = Panels.atLevel2();
        if (fact < 4) {
            Panels.press(panel, 6, fact);
            panel.poll();
            panel.fit(6, Panels.NOTHING, 0, 1f);
        } else if (fact < 8) {
            panel.fit(6, Panels.SMOKE, fact - 4, 16f);
            panel.reading(6, 24f);
        } else {
            panel.fit(6, Panels.SMOKE, 0, 16f);
            panel.wire(0, 2);
            panel.poll();
        }
        return panel;
    }

    private static void andOr(Due due) {
        dueTruth(due, "z0&z2", false);
        dueTruth(due, "z0&z1", false);
        dueTruth(due, "z1&z0", false);
        dueTruth(due, "z1&w1", true);
        dueTruth(due, "z0|z2", false);
        dueTruth(due, "z0|z1", true);
        dueTruth(due, "z1|z0", true);
        dueTruth(due, "z1|w1", true);
    }

    private static void fromTheLeft(Due due) {
        dueTruth(due, "z1|z1&z0", false);
        dueTruth(due, "z0&z0|z1", true);
        dueTruth(due, "z1|z0&z0|z0", false);
        dueTruth(due, "z0&z1|z1&z1", true);
        dueTruth(due, "f|f|f|f|f|f|f|f|z1", true);
        dueTruth(due, "z1|z1|z1|z1|z1&f", false);
    }

    private static void not(Due due) {
        dueTruth(due, "!z0", true);
        dueTruth(due, "!z1", false);
        dueTruth(due, "!!z1", true);
        dueTruth(due, "!!!z1", false);
        dueTruth(due, "!!!!z1", true);
        dueTruth(due, "!z1|z1", true);
        dueTruth(due, "!z0&z0", false);
        dueTruth(due, "z1&!z0", true);
    }

    private static void brackets(Due due) {
        dueTruth(due, "z1|(z1&z0)", true);
        dueTruth(due, "z0&(z0|z1)", false);
        dueTruth(due, "!(z1|z1)", false);
        dueTruth(due, "!(z0&z0)", true);
        dueTruth(due, "((((z1&w1))))", true);
        dueTruth(due, "(z0|(z0|(z0|z1)))", true);
        dueTruth(due, "(z1)&(z0)", false);
        dueTruth(due, "(z1&z0)|z1", true);
    }

    private static void heldGrows(Due due) {
        Real panel = fireInOne();
        Panels.rule(panel, "z1>3:9");
        for (int i = 0; i < 40; i++) {
            due.is("held(0)", panel.held(0), i);
            panel.poll();
        }
    }

    private static Real sixRules() {
        Real panel = fireInOne();
        for (int output = 0; output < 6; output++) {
            mustBeRule(panel, "z1>" + output);
        }
        return panel;
    }

    private static void mustBeRule(Real panel, String text) {
        if (Panels.rule(panel, text) != 0) {
            throw new IllegalStateException(text + " is a rule");
        }
    }

    private static void heldOfSix(Due due) {
        Real panel = sixRules();
        Panels.poll(panel, 2);
        for (int rule = 0; rule < 6; rule++) {
            due.is("held(" + rule + ")", panel.held(rule), 2);
        }
    }

    private static void heldBeginsAgain(Due due) {
        Real panel = fireInOne();
        Panels.rule(panel, "f>3");
        panel.wire(0, 2);
        Panels.poll(panel, 4);
        due.is("held(0)", panel.held(0), 3);
        panel.wire(0, 0);
        panel.poll();
        due.is("held(0) without a fault", panel.held(0), 0);
        panel.wire(0, 2);
        Panels.poll(panel, 2);
        due.is("held(0) with a fault again", panel.held(0), 1);
    }

    private static void heldAtDelay(Due due) {
        for (int delay = 0; delay <= 9; delay++) {
            Real panel = fireInOne();
            Panels.rule(panel, "z1>5:" + delay);
            Panels.rule(panel, "z0>4:" + delay);
            for (int held = 1; held <= 11; held++) {
                panel.poll();
                due.is("output(5), HELD " + held + ", delay " + delay, panel.output(5), held > delay ? 3 : 0);
                due.is("output(4), HELD 0, delay " + delay, panel.output(4), 0);
            }
        }
    }

    private static void oneOfSeveral(Due due) {
        String[][] all = {{"z1>3", "z0>3", "z0>3"}, {"z0>3", "z1>3", "z0>3"}, {"z0>3", "z0>3", "z1>3"}};
        for (String[] rules : all) {
            Real panel = fireInOne();
            for (String text : rules) {
                mustBeRule(panel, text);
            }
            panel.poll();
            due.is("output(3)", panel.output(3), 3);
        }
        Real panel = fireInOne();
        mustBeRule(panel, "z1>3:2");
        mustBeRule(panel, "z1>3:1");
        mustBeRule(panel, "z1>4:2");
        Panels.poll(panel, 2);
        due.is("output(3) by its own delay", panel.output(3), 3);
        due.is("output(4) by its own delay", panel.output(4), 0);
    }

    private static void offAgain(Due due) {
        Real panel = fireInOne();
        Panels.rule(panel, "!z1>3");
        Panels.rule(panel, "!z2>4");
        panel.reading(1, 0f);
        panel.poll();
        due.is("output(3) and output(4)", panel.output(3) + " " + panel.output(4), "3 3");
        panel.reading(1, 1f);
        panel.poll();
        due.is("output(3) and output(4) in fire", panel.output(3) + " " + panel.output(4), "0 3");
    }

    private static void notBeforeAPoll(Due due) {
        Real panel = fireInOne();
        panel.poll();
        Panels.rule(panel, "z1>3");
        due.is("output(3) of a new rule", panel.output(3), 0);
        panel.poll();
        due.is("output(3) behind a poll", panel.output(3), 3);
    }

    private static void outputsInOrder(Due due) {
        Real panel = fireInOne();
        for (int output = 5; output >= 0; output--) {
            Panels.rule(panel, "z1>" + output);
        }
        panel.poll();
        for (int i = 0; i < 6; i++) {
            due.is("entry " + i, Panels.entry(panel, i), "4 " + (5 - i) + " 1");
        }
        due.is("entry 6, the fire before them", Panels.entry(panel, 6), "1 1 1");
    }

    /** One rule lets go of the output in the very poll in which the other takes it: it stays on. */
    private static void handedOver(Due due) {
        for (String[] rules : new String[][] {{"z1>3", "!z1>3"}, {"!z1>3", "z1>3"}}) {
            Real panel = fireInOne();
            panel.reading(1, 0f);
            mustBeRule(panel, rules[0]);
            mustBeRule(panel, rules[1]);
            panel.poll();
            due.is("entries before", Panels.entries(panel), 1);
            panel.reading(1, 1f);
            panel.poll();
            due.is("output(3)", panel.output(3), 3);
            due.is("entries, with the fire's", Panels.entries(panel), 2);
        }
    }

    private static void loggedOnce(Due due) {
        Real panel = fireInOne();
        Panels.rule(panel, "!z1>3");
        panel.reading(1, 0f);
        Panels.poll(panel, 3);
        due.is("entries", Panels.entries(panel), 1);
        due.is("the entry", Panels.entry(panel, 0), "4 3 1");
        panel.reading(1, 1f);
        panel.poll();
        due.is("output(3)", panel.output(3), 0);
        due.is("entries, with the fire's", Panels.entries(panel), 2);
    }

    private static void loggedAgain(Due due) {
        Real panel = fireInOne();
        Panels.rule(panel, "z1>5");
        panel.poll();
        panel.reset();
        panel.poll();
        due.is("the entry behind reset()", Panels.entry(panel, 0), "4 5 2");
        panel.forget();
        Panels.rule(panel, "z1>5");
        panel.poll();
        due.is("the entry behind forget()", Panels.entry(panel, 0), "4 5 3");
    }

    private static void loggedInSilence(Due due) {
        Real panel = fireInOne();
        Panels.rule(panel, "z1>0:1");
        panel.poll();
        panel.silence();
        panel.poll();
        due.is("the entry", Panels.entry(panel, 0), "4 0 2");
    }

    private static void howMany(Due due) {
        Real panel = fireInOne();
        due.is("forget() of none", panel.forget(), 0);
        mustBeRule(panel, "f>1");
        due.is("forget() of one", panel.forget(), 1);
        due.is("forget() again", panel.forget(), 0);
        due.is("forget() of six", sixRules().forget(), 6);
    }

    private static void rulesGo(Due due) {
        Real panel = sixRules();
        panel.forget();
        due.is("count(1)", panel.count(1), 0);
        panel.poll();
        for (int output = 0; output < 6; output++) {
            due.is("output(" + output + ")", panel.output(output), 0);
        }
    }

    private static void outputsGoOff(Due due) {
        Real panel = sixRules();
        panel.poll();
        panel.forget();
        for (int output = 0; output < 6; output++) {
            due.is("output(" + output + ")", panel.output(output), 0);
        }
    }

    private static void othersStay(Due due) {
        Real panel = sixRules();
        panel.poll();
        panel.silence();
        Panels.write(panel, "z1>");
        int entries = Panels.entries(panel);
        panel.forget();
        due.is("zone(1)", panel.zone(1), 3);
        due.is("place(1)", panel.place(1), 51);
        due.is("count(2), count(3) and count(4)", panel.count(2) + " " + panel.count(3) + " " + panel.count(4),
                "2 1 3");
        due.is("entries", Panels.entries(panel), entries);
    }

    private static void forgetBelowLevelTwo(Due due) {
        Real panel = sixRules();
        panel.poll();
        panel.key(0);
        due.refused("forget() at level 0", panel, Sentences.STATE, panel::forget);
        panel.key(1357);
        due.refused("forget() at level 1", panel, Sentences.STATE, panel::forget);
    }

    private static void neither(Due due) {
        Real panel = Panels.atLevel2();
        panel.silence();
        for (int output = 0; output < 6; output++) {
            due.is("output(" + output + ") of a new panel", new Real().output(output), 0);
            due.is("output(" + output + ") in silence", panel.output(output), 0);
        }
    }

    private static void lastSounder(Due due) {
        Real panel = sixRules();
        panel.poll();
        panel.silence();
        due.is("output(2)", panel.output(2), 1);
        due.is("output(3)", panel.output(3), 3);
    }

    private static void silentSounder(Due due) {
        Real panel = sixRules();
        panel.poll();
        for (int output = 0; output < 6; output++) {
            due.is("output(" + output + ")", panel.output(output), 3);
        }
        panel.silence();
        for (int output = 0; output < 6; output++) {
            due.is("output(" + output + ") in silence", panel.output(output), output < 3 ? 1 : 3);
        }
    }

    private static void soundersInSilence(Due due) {
        Real panel = fireInOne();
        Panels.rule(panel, "z1>0:1");
        Panels.rule(panel, "z1>5:1");
        panel.poll();
        panel.silence();
        panel.poll();
        due.is("output(0)", panel.output(0), 1);
        due.is("output(5)", panel.output(5), 3);
    }

    private static void soundAgain(Due due) {
        Real panel = sixRules();
        panel.poll();
        panel.silence();
        panel.poll();
        due.is("output(0) in silence", panel.output(0), 1);
        panel.reading(2, 1f);
        panel.poll();
        due.is("output(0) with a new fire", panel.output(0), 3);
    }

    private static void noSuchOutput(Due due) {
        Real panel = sixRules();
        panel.poll();
        for (int output : new int[] {-1, 6, 7, Integer.MIN_VALUE, Integer.MAX_VALUE}) {
            due.refused("output(" + output + ")", panel, Sentences.NO_SUCH, () -> panel.output(output));
        }
    }

    private static void heldOfFirstAndSixth(Due due) {
        Real panel = Panels.atLevel2();
        mustBeRule(panel, "!f>0");
        for (int i = 0; i < 4; i++) {
            mustBeRule(panel, "f>1");
        }
        panel.poll();
        mustBeRule(panel, "!f>5");
        panel.poll();
        due.is("held(0)", panel.held(0), 2);
        due.is("held(1)", panel.held(1), 0);
        due.is("held(5)", panel.held(5), 1);
    }

    private static void heldOfNone(Due due) {
        Real panel = Panels.atLevel2();
        for (int rule : new int[] {0, -1, 5, 6}) {
            due.refused("held(" + rule + ")", panel, Sentences.NO_SUCH, () -> panel.held(rule));
        }
    }

    private static void heldBehindLast(Due due) {
        Real panel = Panels.atLevel2();
        for (int many = 1; many < 6; many++) {
            mustBeRule(panel, "!f>0");
            int behind = many;
            due.refused("held(" + many + ") of " + many, panel, Sentences.NO_SUCH, () -> panel.held(behind));
            due.is("held(" + (many - 1) + ") of " + many, panel.held(many - 1), 0);
        }
        for (int rule : new int[] {-1, Integer.MIN_VALUE, Integer.MAX_VALUE}) {
            due.refused("held(" + rule + ")", panel, Sentences.NO_SUCH, () -> panel.held(rule));
        }
    }

    private static void heldOfSeventh(Due due) {
        Real panel = sixRules();
        due.is("held(5)", panel.held(5), 0);
        due.refused("held(6)", panel, Sentences.NO_SUCH, () -> panel.held(6));
        due.refused("held(-1)", panel, Sentences.NO_SUCH, () -> panel.held(-1));
    }

    private static void heldOfForgotten(Due due) {
        Real panel = sixRules();
        panel.poll();
        panel.forget();
        for (int i = 0; i < 6; i++) {
            int rule = i;
            due.refused("held(" + i + ")", panel, Sentences.NO_SUCH, () -> panel.held(rule));
        }
    }
}
