import java.util.NoSuchElementException;

/** Promises 7, 8, 9 (its part 3), 18 and 19: what rules drive. */
public final class RuleTest {
    public static void main(String[] args) {
        Due due = new Due();
        conditions(due);
        fromTheLeft(due);
        eachFactAlone(due);
        fault(due);
        delays(due);
        heldStartsAgain(due);
        severalRulesForOne(due);
        logsWhatComesOn(due);
        silenceMutesSounders(due);
        newRuleWaitsForAPoll(due);
        forgets(due);
        refuses(due);
        due.end();
    }

    /** Zone 0 is in fire, zone 1 has only a warning, zones 2 and 3 have nothing. */
    private static Real fireAndWarning() {
        Real panel = Panels.atLevel2();
        Panels.press(panel, 0, 0);
        panel.fit(1, Panels.SMOKE, 1, 80f);
        panel.reading(1, 130f);
        return panel;
    }

    private static void dueTruth(Due due, String condition, boolean want) {
        Real panel = fireAndWarning();
        due.is("rule of " + condition, Panels.rule(panel, condition + ">4"), 0);
        panel.poll();
        due.is(condition, panel.held(0), want ? 1 : 0);
        due.is("output of " + condition, panel.output(4), want ? 3 : 0);
    }

    private static void conditions(Due due) {
        dueTruth(due, "z0", true);
        dueTruth(due, "z1", false);
        dueTruth(due, "z2", false);
        dueTruth(due, "z3", false);
        dueTruth(due, "w0", true);
        dueTruth(due, "w1", true);
        dueTruth(due, "w2", false);
        dueTruth(due, "w3", false);
        dueTruth(due, "f", false);
        dueTruth(due, "!z0", false);
        dueTruth(due, "!z1", true);
        dueTruth(due, "!!z0", true);
        dueTruth(due, "z0&w1", true);
        dueTruth(due, "z0&z1", false);
        dueTruth(due, "z1&z0", false);
        dueTruth(due, "z2&z1", false);
        dueTruth(due, "z0|z1", true);
        dueTruth(due, "z1|z0", true);
        dueTruth(due, "z1|z2", false);
        dueTruth(due, "z0|w0", true);
    }

    private static void fromTheLeft(Due due) {
        dueTruth(due, "z0|z0&z1", false);
        dueTruth(due, "z0|(z0&z1)", true);
        dueTruth(due, "z1&z1|z0", true);
        dueTruth(due, "z1&(z1|z0)", false);
        dueTruth(due, "!z0|z0", true);
        dueTruth(due, "!(z0|z0)", false);
        dueTruth(due, "!z1&z1", false);
        dueTruth(due, "!(z1&z0)", true);
        dueTruth(due, "z0&(z1|(z1|!f))", true);
        dueTruth(due, "z0|(z1&!(z0&f))&f", false);
        dueTruth(due, "z0&!z1&w1|f&z1", false);
    }

    /** One of nine facts is true at a time, and only the term that asks for it. */
    private static void eachFactAlone(Due due) {
        String[] terms = {"z0", "z1", "z2", "z3", "w0", "w1", "w2", "w3", "f"};
        for (int fact = 0; fact < terms.length; fact++) {
            for (int asked = 0; asked < terms.length; asked++) {
                Real panel = withFact(fact);
                Panels.rule(panel, terms[asked] + ">3");
                panel.poll();
                due.is(terms[asked] + " with " + terms[fact], panel.held(0), asked == fact ? 1 : 0);
            }
        }
    }

    private static Real withFact(int fact) {
        Real panel = Panels.atLevel2();
        if (fact < 4) {
            Panels.press(panel, 2, fact);
            panel.poll();
            panel.off(false, 2, true);
        } else if (fact < 8) {
            panel.fit(2, Panels.SMOKE, fact - 4, 80f);
            panel.reading(2, 130f);
        } else {
            panel.fit(2, Panels.SMOKE, 0, 80f);
            panel.wire(0, 2);
            panel.poll();
        }
        return panel;
    }

    private static void fault(Due due) {
        Real panel = Panels.atLevel2();
        panel.fit(5, Panels.SMOKE, 0, 10f);
        panel.off(false, 5, true);
        Panels.rule(panel, "f>5");
        panel.wire(0, 2);
        panel.poll();
        due.is("missed once", panel.output(5), 0);
        panel.poll();
        due.is("at fault in the same poll", panel.output(5), 3);
        panel.wire(0, 0);
        due.is("until the next poll", panel.output(5), 3);
        panel.poll();
        due.is("no fault", panel.output(5), 0);
    }

    private static void delays(Due due) {
        for (int delay = 0; delay <= 9; delay++) {
            Real panel = fireAndWarning();
            Panels.rule(panel, "z0>3:" + delay);
            for (int i = 1; i <= 12; i++) {
                panel.poll();
                due.is("held " + i, panel.held(0), i);
                due.is("output with delay " + delay + " at poll " + i, panel.output(3), i > delay ? 3 : 0);
            }
        }
    }

    private static void heldStartsAgain(Due due) {
        Real panel = Panels.atLevel2();
        panel.fit(0, Panels.SMOKE, 2, 10f);
        Panels.rule(panel, "w2>3:1");
        panel.reading(0, 20f);
        Panels.poll(panel, 2);
        due.is("on", panel.output(3) + " " + panel.held(0), "3 2");
        panel.reading(0, -100f);
        panel.poll();
        due.is("off by itself", panel.output(3) + " " + panel.held(0), "0 0");
        panel.reading(0, 200f);
        panel.poll();
        due.is("delayed again", panel.output(3) + " " + panel.held(0), "0 1");
        panel.poll();
        due.is("on again", panel.output(3) + " " + panel.held(0), "3 2");
        due.is("logged again", Panels.entry(panel, 0) + ", " + Panels.entry(panel, 1), "4 3 5, 4 3 2");
    }

    private static void severalRulesForOne(Due due) {
        Real panel = fireAndWarning();
        Panels.rule(panel, "z0>3:2");
        Panels.rule(panel, "z3>3");
        Panels.rule(panel, "z0>3:1");
        panel.poll();
        due.is("none is above its delay", panel.output(3), 0);
        panel.poll();
        due.is("the last one is", panel.output(3), 3);
        due.is("held", panel.held(0) + " " + panel.held(1) + " " + panel.held(2), "2 0 2");
        panel.poll();
        due.is("logged once", Panels.entry(panel, 0) + ", " + Panels.entry(panel, 1), "4 3 2, 1 0 1");
    }

    private static void logsWhatComesOn(Due due) {
        Real panel = fireAndWarning();
        for (int output = 5; output >= 0; output--) {
            Panels.rule(panel, "z0>" + output);
        }
        panel.poll();
        for (int i = 0; i < 6; i++) {
            due.is("entry " + i, Panels.entry(panel, i), "4 " + (5 - i) + " 1");
        }
        due.is("entry 6", Panels.entry(panel, 6), "1 0 1");
        panel.poll();
        due.is("no more entries", Panels.entries(panel), 7);
    }

    private static void silenceMutesSounders(Due due) {
        Real panel = fireAndWarning();
        for (int output = 0; output < 6; output++) {
            Panels.rule(panel, "z0>" + output);
        }
        panel.poll();
        panel.silence();
        for (int output = 0; output < 6; output++) {
            due.is("output " + output + " in silence", panel.output(output), output < 3 ? 1 : 3);
        }
        panel.poll();
        due.is("silence lasts", panel.output(0), 1);
        Panels.press(panel, 9, 3);
        panel.poll();
        due.is("a new fire ends it", panel.output(0), 3);
        Real quiet = Panels.atLevel2();
        quiet.silence();
        due.is("an output that is not on", quiet.output(0) + quiet.output(5), 0);
    }

    private static void newRuleWaitsForAPoll(Due due) {
        Real panel = fireAndWarning();
        panel.poll();
        Panels.rule(panel, "z0>3");
        due.is("before a poll", panel.output(3) + " " + panel.held(0), "0 0");
        panel.poll();
        due.is("behind it", panel.output(3) + " " + panel.held(0), "3 1");
        panel.reset();
        due.is("behind reset", panel.output(3) + " " + panel.held(0), "0 0");
        Panels.rule(panel, "z0>4");
        due.is("rules stay with reset", panel.count(1), 2);
    }

    private static void forgets(Due due) {
        Real panel = fireAndWarning();
        due.is("forget of none", panel.forget(), 0);
        Panels.rule(panel, "z0>3");
        Panels.rule(panel, "z0>0");
        Panels.poll(panel, 2);
        Panels.write(panel, "f");
        int entries = Panels.entries(panel);
        due.is("forget", panel.forget(), 2);
        due.is("outputs", panel.output(3) + panel.output(0), 0);
        due.is("rules", panel.count(1), 0);
        due.is("the pad stays", panel.count(4), 1);
        due.is("the fire stays", panel.zone(0), 3);
        due.is("it is not logged", Panels.entries(panel), entries);
        panel.poll();
        due.is("outputs stay off", panel.output(3) + panel.output(0), 0);
        due.is("the old pad with an output 9", Panels.rule(panel, ">9"), 3);
        Panels.rule(panel, "z0>1:1");
        due.is("begins with held 0", panel.held(0), 0);
        panel.poll();
        due.is("and waits", panel.output(1), 0);
    }

    private static void refuses(Due due) {
        Real panel = fireAndWarning();
        Panels.rule(panel, "z0>3");
        Panels.rule(panel, "z0>4");
        panel.poll();
        Class<NoSuchElementException> none = NoSuchElementException.class;
        for (int rule : new int[] {-1, 2, 6, Integer.MIN_VALUE, Integer.MAX_VALUE}) {
            due.refused("held of " + rule, panel, none, () -> panel.held(rule));
        }
        for (int output : new int[] {-1, 6, Integer.MIN_VALUE, Integer.MAX_VALUE}) {
            due.refused("output " + output, panel, none, () -> panel.output(output));
        }
        panel.key(1357);
        due.refused("forget at level 1", panel, IllegalStateException.class, panel::forget);
        panel.key(2468);
        panel.forget();
        due.refused("held behind forget", panel, none, () -> panel.held(0));
    }
}
