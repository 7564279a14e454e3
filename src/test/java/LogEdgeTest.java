/** A new object, the log, the counts and the exceptions, promises 1, 20 and 21: each sentence with its edges. */
public final class LogEdgeTest {
    public static void main(String[] args) {
        Sentences.end(newObject(), log(), entries(), count(), exceptions());
    }

    private static Sentences newObject() {
        return new Sentences("Promise 1")
                .holds("As said above; no rules, an empty pad and log.", "no rules", LogEdgeTest::noRules)
                .holds("As said above; no rules, an empty pad and log.", "an empty pad", LogEdgeTest::emptyPad)
                .holds("As said above; no rules, an empty pad and log.", "an empty log", LogEdgeTest::emptyLog)
                .holds("As said above; no rules, an empty pad and log.", "places, zones, outputs and counts",
                        LogEdgeTest::allElse)
                .holds("As said above; no rules, an empty pad and log.", "whatever another object did",
                        LogEdgeTest::objectsAreApart);
    }

    private static Sentences log() {
        return new Sentences("Promise 20")
                .holds("Of entry i of the log (0 the latest)", "one entry, and the order of several",
                        LogEdgeTest::latestFirst)
                .holds("THE LOG keeps the last 16 entries", "15, 16 and 17 of them", LogEdgeTest::keepsSixteen)
                .holds("THE LOG keeps the last 16 entries", "over and over again", LogEdgeTest::overAndOver)
                .holds("THE LOG keeps the last 16 entries", "more than 16 of one poll", LogEdgeTest::manyOfOnePoll)
                .holds("what (0), the number (1), the poll (2)", "three words", LogEdgeTest::threeWords)
                .holds("there is no such entry or word", "an empty log", LogEdgeTest::noEntryInEmptyLog)
                .holds("there is no such entry or word", "entries below 0 and just behind the last",
                        LogEdgeTest::noSuchEntry)
                .holds("there is no such entry or word", "a seventeenth entry", LogEdgeTest::noSeventeenth)
                .holds("there is no such entry or word", "words below 0 and above 2", LogEdgeTest::noSuchWord);
    }

    private static Sentences entries() {
        return new Sentences("Promise 20 (Terms, the log)")
                .holds("what (1 .. 4 as said", "fire, fault, its end, output", LogEdgeTest::oneToFour)
                .holds("5 silence, 6 reset", "their number is 0", LogEdgeTest::fiveAndSix)
                .holds("7 a zone or place that was switched off or on", "each zone and each place",
                        LogEdgeTest::seven)
                .holds("10 + place for 7 with a place", "the first and the last", LogEdgeTest::tenAndPlace)
                .holds("and the poll", "the count of polls when it was made", LogEdgeTest::thePoll)
                .holds("what (1 .. 4 as said", "no other call makes an entry", LogEdgeTest::noOtherEntries);
    }

    private static Sentences count() {
        return new Sentences("Promise 21")
                .holds("0 polls", "none and many", LogEdgeTest::polls)
                .holds("1 rules", "none to six", LogEdgeTest::rules)
                .holds("2 the panel's level", "0, 1 and 2", LogEdgeTest::levels)
                .holds("3 whether silence is on (1 or 0)", "on and off", LogEdgeTest::silence)
                .holds("4 characters in the pad", "none to twenty", LogEdgeTest::characters)
                .holds("5 devices at fault", "none to sixteen", LogEdgeTest::faults)
                .holds("5 devices at fault", "off ones too, not those taken away", LogEdgeTest::faultsOfOffAndGone)
                .holds("IllegalArgumentException: none of these.", "below 0 and above 5", LogEdgeTest::noSuchCount);
    }

    private static Sentences exceptions() {
        return new Sentences("Promises 2 to 21 (Terms, the exceptions)")
                .holds("Such a call changes nothing, if nothing else is said.", "a panel in the midst of its work",
                        LogEdgeTest::refusedCallsChangeNothing)
                .holds("a call ends by the first that holds", "each exception's own class", LogEdgeTest::ownClasses);
    }

    private static void noRules(Due due) {
        Real panel = new Real();
        due.is("count(1)", panel.count(1), 0);
        due.refused("held(0)", panel, Sentences.NO_SUCH, () -> panel.held(0));
        due.is("forget()", Panels.atLevel2().forget(), 0);
    }

    private static void emptyPad(Due due) {
        due.is("count(4)", new Real().count(4), 0);
        due.is("rule()", Panels.atLevel2().rule(), 1);
    }

    private static void emptyLog(Due due) {
        Real panel = new Real();
        due.refused("log(0, 0)", panel, Sentences.ARGUMENT, () -> panel.log(0, 0));
    }

    private static void allElse(Due due) {
        Real panel = new Real();
        for (int i = 0; i < 16; i++) {
            due.is("place(" + i + ")", panel.place(i), 1);
        }
        for (int i = 0; i < 4; i++) {
            due.is("zone(" + i + ")", panel.zone(i), 0);
        }
        for (int i = 0; i < 6; i++) {
            due.is("output(" + i + ")", panel.output(i), 0);
            due.is("count(" + i + ")", panel.count(i), 0);
        }
    }

    private static void objectsAreApart(Due due) {
        String fresh = Panels.look(new Real());
        Real other = new Real();
        Real panel = Panels.atLevel2();
        Panels.press(panel, 0, 0);
        Panels.rule(panel, "z0>1");
        panel.wire(9, 2);
        panel.off(true, 3, true);
        panel.poll();
        panel.type('f');
        panel.silence();
        due.is("the look of an older object", Panels.look(other), fresh);
        due.is("the look of a newer object", Panels.look(new Real()), fresh);
    }

    /** So many resets, each behind a poll: reset n bears poll n. */
    private static Real withResets(int many) {
        Real panel = Panels.atLevel2();
        for (int i = 0; i < many; i++) {
            panel.poll();
            panel.reset();
        }
        return panel;
    }

    private static void latestFirst(Due due) {
        due.is("the only entry", Panels.entry(withResets(1), 0), "6 0 1");
        Real panel = withResets(3);
        for (int i = 0; i < 3; i++) {
            due.is("log(" + i + ", 2)", panel.log(i, 2), 3 - i);
        }
    }

    private static void keepsSixteen(Due due) {
        for (int many : new int[] {15, 16, 17}) {
            Real panel = withResets(many);
            int kept = Math.min(many, 16);
            due.is("entries of " + many, Panels.entries(panel), kept);
            for (int i = 0; i < kept; i++) {
                due.is("log(" + i + ", 2) of " + many, panel.log(i, 2), many - i);
            }
        }
    }

    private static void overAndOver(Due due) {
        for (int many : new int[] {31, 32, 33, 48, 200}) {
            Real panel = withResets(many);
            due.is("entries of " + many, Panels.entries(panel), 16);
            due.is("log(0, 2) of " + many, panel.log(0, 2), many);
            due.is("log(15, 2) of " + many, panel.log(15, 2), many - 15);
        }
    }

    private static void manyOfOnePoll(Due due) {
        Real panel = Panels.atLevel2();
        for (int place = 0; place < 16; place++) {
            panel.fit(place, Panels.SMOKE, 0, 1f);
        }
        Panels.rule(panel, "f>3");
        Panels.rule(panel, "f>5");
        panel.wire(0, 2);
        Panels.poll(panel, 2);
        due.is("entries", Panels.entries(panel), 16);
        due.is("entry 0", Panels.entry(panel, 0), "4 5 2");
        due.is("entry 1", Panels.entry(panel, 1), "4 3 2");
        due.is("entry 2", Panels.entry(panel, 2), "2 15 2");
        due.is("entry 15", Panels.entry(panel, 15), "2 2 2");
    }

    private static void threeWords(Due due) {
        Real panel = Panels.atLevel2();
        Panels.poll(panel, 5);
        panel.off(false, 2, true);
        due.is("log(0, 0)", panel.log(0, 0), 7);
        due.is("log(0, 1)", panel.log(0, 1), 12);
        due.is("log(0, 2)", panel.log(0, 2), 5);
    }

    private static void noEntryInEmptyLog(Due due) {
        Real panel = Panels.atLevel2();
        for (int word = 0; word < 3; word++) {
            int asked = word;
            due.refused("log(0, " + word + ")", panel, Sentences.ARGUMENT, () -> panel.log(0, asked));
        }
    }

    private static void noSuchEntry(Due due) {
        for (int many : new int[] {1, 2, 15}) {
            Real panel = withResets(many);
            for (int i : new int[] {-1, many, many + 1, 16, Integer.MIN_VALUE, Integer.MAX_VALUE}) {
                due.refused("log(" + i + ", 0) of " + many, panel, Sentences.ARGUMENT, () -> panel.log(i, 0));
                due.refused("log(" + i + ", 2) of " + many, panel, Sentences.ARGUMENT, () -> panel.log(i, 2));
            }
        }
    }

    private static void noSeventeenth(Due due) {
        for (int many : new int[] {16, 17, 40}) {
            Real panel = withResets(many);
            due.refused("log(16, 0) of " + many, panel, Sentences.ARGUMENT, () -> panel.log(16, 0));
            due.is("log(15, 0) of " + many, panel.log(15, 0), 6);
        }
    }

    private static void noSuchWord(Due due) {
        Real panel = withResets(20);
        for (int word : new int[] {-1, 3, 4, Integer.MIN_VALUE, Integer.MAX_VALUE}) {
            for (int i : new int[] {0, 7, 15}) {
                due.refused("log(" + i + ", " + word + ")", panel, Sentences.ARGUMENT, () -> panel.log(i, word));
            }
        }
    }

    private static void oneToFour(Due due) {
        Real panel = Panels.atLevel2();
        panel.fit(15, Panels.SMOKE, 0, 1f);
        panel.fit(14, Panels.ISOLATOR, 0, 1f);
        panel.wire(16, 2);
        panel.wire(15, 1);
        Panels.poll(panel, 2);
        due.is("a fault", Panels.entry(panel, 0), "2 15 2");
        panel.wire(16, 0);
        panel.poll();
        due.is("its end", Panels.entry(panel, 0), "3 15 3");
        Panels.press(panel, 0, 3);
        panel.poll();
        due.is("a fire", Panels.entry(panel, 0), "1 3 4");
        Panels.rule(panel, "z3>5");
        panel.poll();
        due.is("an output", Panels.entry(panel, 0), "4 5 5");
    }

    private static void fiveAndSix(Due due) {
        Real panel = Panels.atLevel2();
        Panels.press(panel, 3, 3);
        panel.poll();
        panel.silence();
        due.is("silence", Panels.entry(panel, 0), "5 0 1");
        panel.reset();
        due.is("reset", Panels.entry(panel, 0), "6 0 1");
    }

    private static void seven(Due due) {
        Real panel = Panels.atLevel2();
        for (boolean off : new boolean[] {true, false}) {
            for (int zone = 0; zone < 4; zone++) {
                panel.off(true, zone, off);
                due.is("zone " + zone, Panels.entry(panel, 0), "7 " + zone + " 0");
            }
            for (int place = 0; place < 16; place++) {
                panel.off(false, place, off);
                due.is("place " + place, Panels.entry(panel, 0), "7 " + (10 + place) + " 0");
            }
        }
    }

    private static void tenAndPlace(Due due) {
        Real panel = Panels.atLevel2();
        panel.off(false, 0, true);
        due.is("log(0, 1) of place 0", panel.log(0, 1), 10);
        panel.off(false, 15, true);
        due.is("log(0, 1) of place 15", panel.log(0, 1), 25);
        panel.fit(1, Panels.SMOKE, 0, 1f);
        panel.wire(0, 2);
        Panels.poll(panel, 2);
        due.is("log(0, 1) of a fault at place 1", panel.log(0, 1), 1);
    }

    private static void thePoll(Due due) {
        Real panel = Panels.atLevel2();
        panel.reset();
        due.is("log(0, 2) before a poll", panel.log(0, 2), 0);
        Panels.poll(panel, 300);
        panel.reset();
        due.is("log(0, 2) behind 300", panel.log(0, 2), 300);
        panel.poll();
        due.is("log(0, 2) stays", panel.log(0, 2), 300);
        due.is("log(1, 2) stays", panel.log(1, 2), 0);
    }

    private static void noOtherEntries(Due due) {
        Real panel = Panels.atLevel2();
        panel.fit(0, Panels.SMOKE, 0, 1f);
        panel.need(0, 2);
        panel.wire(16, 1);
        panel.reading(0, 1f);
        Panels.rule(panel, "f>1");
        Panels.rule(panel, "f");
        panel.forget();
        panel.poll();
        panel.key(1357);
        due.is("entries", Panels.entries(panel), 0);
    }

    private static void polls(Due due) {
        Real panel = new Real();
        due.is("count(0)", panel.count(0), 0);
        Panels.poll(panel, 400);
        due.is("count(0) of 400", panel.count(0), 400);
    }

    private static void rules(Due due) {
        Real panel = Panels.atLevel2();
        for (int many = 0; many < 6; many++) {
            due.is("count(1)", panel.count(1), many);
            Panels.rule(panel, "f>1");
        }
        due.is("count(1)", panel.count(1), 6);
        panel.forget();
        due.is("count(1) behind forget()", panel.count(1), 0);
    }

    private static void levels(Due due) {
        Real panel = new Real();
        due.is("count(2)", panel.count(2), 0);
        panel.key(1357);
        due.is("count(2)", panel.count(2), 1);
        panel.key(2468);
        due.is("count(2)", panel.count(2), 2);
        panel.key(-1);
        due.is("count(2)", panel.count(2), 0);
    }

    private static void silence(Due due) {
        Real panel = Panels.atLevel2();
        due.is("count(3)", panel.count(3), 0);
        panel.silence();
        due.is("count(3)", panel.count(3), 1);
        panel.silence();
        due.is("count(3) again", panel.count(3), 1);
        panel.reset();
        due.is("count(3) behind reset()", panel.count(3), 0);
    }

    private static void characters(Due due) {
        Real panel = Panels.atLevel2();
        for (int many = 0; many < 20; many++) {
            due.is("count(4)", panel.count(4), many);
            panel.type('f');
        }
        panel.type('f');
        due.is("count(4) of a full pad", panel.count(4), 20);
        panel.rule();
        due.is("count(4) behind rule()", panel.count(4), 0);
    }

    private static void faults(Due due) {
        for (int many = 0; many <= 16; many++) {
            Real panel = Panels.atLevel2();
            for (int place = 0; place < many; place++) {
                panel.fit(place, Panels.SMOKE, 0, 1f);
            }
            panel.wire(0, 2);
            panel.poll();
            due.is("count(5), missed once", panel.count(5), 0);
            panel.poll();
            due.is("count(5) of " + many, panel.count(5), many);
        }
    }

    private static void faultsOfOffAndGone(Due due) {
        Real panel = Panels.atLevel2();
        panel.fit(0, Panels.SMOKE, 0, 1f);
        panel.fit(15, Panels.BUTTON, 0, 1f);
        panel.off(false, 15, true);
        panel.wire(8, 2);
        Panels.poll(panel, 2);
        due.is("count(5)", panel.count(5), 2);
        panel.fit(0, Panels.NOTHING, 0, 1f);
        due.is("count(5), one taken away", panel.count(5), 1);
        panel.fit(15, Panels.BUTTON, 0, 1f);
        due.is("count(5), the other fitted anew", panel.count(5), 0);
    }

    private static void noSuchCount(Due due) {
        Real panel = Panels.atLevel2();
        for (int what : new int[] {-1, 6, Integer.MIN_VALUE, Integer.MAX_VALUE}) {
            due.refused("count(" + what + ")", panel, Sentences.ARGUMENT, () -> panel.count(what));
        }
    }

    /** A fire, a fault, a sounder in silence, a device twice over, one missed once, a text on the pad. */
    private static Real atWork() {
        Real panel = Panels.atLevel2();
        Panels.press(panel, 0, 0);
        panel.fit(3, Panels.SMOKE, 1, 1f);
        panel.reading(3, 50f);
        panel.fit(8, Panels.ISOLATOR, 0, 1f);
        panel.fit(12, Panels.HEAT, 2, 1f);
        Panels.rule(panel, "z0>0");
        Panels.rule(panel, "f>4:3");
        panel.wire(14, 2);
        panel.poll();
        panel.fit(13, Panels.HEAT, 2, 1f);
        panel.poll();
        panel.silence();
        panel.off(true, 3, true);
        Panels.write(panel, "z0&w1>5");
        return panel;
    }

    private static void refuseAll(Due due, Real panel) {
        due.refused("fit(3, 5, 1, 1f)", panel, Sentences.ARGUMENT, () -> panel.fit(3, 5, 1, 1f));
        due.refused("need(0, 9)", panel, Sentences.ARGUMENT, () -> panel.need(0, 9));
        due.refused("wire(14, 3)", panel, Sentences.ARGUMENT, () -> panel.wire(14, 3));
        due.refused("reading(3, -101f)", panel, Sentences.ARGUMENT, () -> panel.reading(3, -101f));
        due.refused("off(true, 4, false)", panel, Sentences.NO_SUCH, () -> panel.off(true, 4, false));
        due.refused("log(16, 0)", panel, Sentences.ARGUMENT, () -> panel.log(16, 0));
        due.refused("count(6)", panel, Sentences.ARGUMENT, () -> panel.count(6));
        due.refused("held(2)", panel, Sentences.NO_SUCH, () -> panel.held(2));
        panel.key(0);
        due.refused("fit at level 0", panel, Sentences.STATE, () -> panel.fit(3, 0, 0, 1f));
        due.refused("need at level 0", panel, Sentences.STATE, () -> panel.need(1, 4));
        due.refused("rule() at level 0", panel, Sentences.STATE, panel::rule);
        due.refused("forget() at level 0", panel, Sentences.STATE, panel::forget);
        due.refused("silence() at level 0", panel, Sentences.STATE, panel::silence);
        due.refused("reset() at level 0", panel, Sentences.STATE, panel::reset);
        due.refused("off at level 0", panel, Sentences.STATE, () -> panel.off(true, 3, false));
        panel.key(2468);
    }

    private static void refusedCallsChangeNothing(Due due) {
        Real spared = atWork();
        Real panel = atWork();
        for (int i = 0; i < 3; i++) {
            refuseAll(due, panel);
            due.is("poll() " + i, panel.poll(), spared.poll());
            due.is("the look behind it", Panels.look(panel), Panels.look(spared));
        }
        due.is("rule() of the pad", panel.rule(), 0);
        panel.poll();
        due.is("held(2)", panel.held(2), 1);
    }

    private static void ownClasses(Due due) {
        Real panel = new Real();
        due.refused("fit(-1, -1, -1, -1f)", panel, Sentences.NO_SUCH, () -> panel.fit(-1, -1, -1, -1f));
        due.refused("fit(0, -1, 0, -1f)", panel, Sentences.ARGUMENT, () -> panel.fit(0, -1, 0, -1f));
        due.refused("fit(0, 0, 0, 1f)", panel, Sentences.STATE, () -> panel.fit(0, 0, 0, 1f));
    }
}
