import java.util.function.Consumer;

/** Terms of the levels, promises 10, 11 and 12: each sentence with its edges. */
public final class KeyEdgeTest {
    public static void main(String[] args) {
        Sentences.end(key(), levels(), silence(), reset());
    }

    private static Sentences key() {
        return new Sentences("Promise 10")
                .holds("the panel is at level 0 at first", "a new panel", KeyEdgeTest::levelAtFirst)
                .holds("Code 1357 leads to level 1", "from each level", KeyEdgeTest::codeOfLevelOne)
                .holds("2468 to level 2", "from each level", KeyEdgeTest::codeOfLevelTwo)
                .holds("any other to 0", "from each level", KeyEdgeTest::anyOther)
                .holds("any other to 0", "codes just beside, and those that wrap around", KeyEdgeTest::besideTheCodes)
                .holds("A key: the level that the panel is at then.", "it stays through other calls",
                        KeyEdgeTest::levelStays)
                .holds("A key: the level that the panel is at then.", "it is not logged", KeyEdgeTest::keyIsNotLogged);
    }

    private static Sentences levels() {
        return new Sentences("Promise 10 (Terms, the levels)")
                .holds("A method that says LEVEL n: IllegalStateException if the panel's level is below that.",
                        "LEVEL 1 at levels 0, 1 and 2", KeyEdgeTest::levelOne)
                .holds("A method that says LEVEL n: IllegalStateException if the panel's level is below that.",
                        "LEVEL 2 at levels 0, 1 and 2", KeyEdgeTest::levelTwo)
                .holds("A method that says LEVEL n: IllegalStateException if the panel's level is below that.",
                        "methods that say none, at level 0", KeyEdgeTest::noLevel);
    }

    private static Sentences silence() {
        return new Sentences("Promise 11")
                .holds("Silence is on: whether it was not (then it is logged).", "it was not",
                        KeyEdgeTest::silenceComes)
                .holds("Silence is on: whether it was not (then it is logged).", "it was", KeyEdgeTest::silenceStays)
                .holds("Silence is on: whether it was not (then it is logged).", "anew behind a fire and a reset",
                        KeyEdgeTest::silenceAnew)
                .holds("Silence is on: whether it was not (then it is logged).", "the outputs stay on",
                        KeyEdgeTest::outputsStayOn)
                .holds("LEVEL 1", "level 0, silence on or not", KeyEdgeTest::silenceBelowLevelOne);
    }

    private static Sentences reset() {
        return new Sentences("Promise 12")
                .holds("No zone is in fire", "all four", KeyEdgeTest::noFire)
                .holds("no device in alarm", "all sixteen, off and unreached ones too", KeyEdgeTest::noAlarm)
                .holds("all OVER and HELD are 0", "over", KeyEdgeTest::overIsZero)
                .holds("all OVER and HELD are 0", "over of a device that is off", KeyEdgeTest::overOfOff)
                .holds("all OVER and HELD are 0", "held of all six rules", KeyEdgeTest::heldIsZero)
                .holds("all outputs off", "all six", KeyEdgeTest::outputsOff)
                .holds("silence is off", "it was on", KeyEdgeTest::silenceOff)
                .holds("how many zones were in fire", "none, one, all, one that is off", KeyEdgeTest::howMany)
                .holds("It is logged.", "each time, with nothing to reset too", KeyEdgeTest::resetIsLogged)
                .holds("LEVEL 1", "level 0", KeyEdgeTest::resetBelowLevelOne)
                .holds("Nothing is promised beyond the answers and state changes described above", "the rest stays",
                        KeyEdgeTest::theRestStays)
                .holds("Nothing is promised beyond the answers and state changes described above",
                        "missed and needs stay", KeyEdgeTest::missedAndNeedsStay);
    }

    private static void levelAtFirst(Due due) {
        due.is("count(2)", new Real().count(2), 0);
    }

    private static Real at(int level) {
        Real panel = new Real();
        panel.key(level == 2 ? 2468 : level == 1 ? 1357 : 0);
        return panel;
    }

    private static void dueLevel(Due due, int code, int want) {
        for (int level = 0; level <= 2; level++) {
            Real panel = at(level);
            due.is("key(" + code + ") at level " + level, panel.key(code), want);
            due.is("count(2)", panel.count(2), want);
        }
    }

    private static void codeOfLevelOne(Due due) {
        dueLevel(due, 1357, 1);
    }

    private static void codeOfLevelTwo(Due due) {
        dueLevel(due, 2468, 2);
    }

    private static void anyOther(Due due) {
        for (int code : new int[] {0, 1, 2, 9999, -1, Integer.MIN_VALUE, Integer.MAX_VALUE}) {
            dueLevel(due, code, 0);
        }
    }

    private static void besideTheCodes(Due due) {
        for (int code : new int[] {1357, 2468}) {
            dueLevel(due, code - 1, 0);
            dueLevel(due, code + 1, 0);
            dueLevel(due, -code, 0);
            dueLevel(due, code + (1 << 16), 0);
            dueLevel(due, code + (1 << 31), 0);
        }
    }

    private static void levelStays(Due due) {
        Real panel = at(2);
        Panels.press(panel, 0, 0);
        Panels.rule(panel, "z0>1");
        panel.poll();
        panel.silence();
        panel.reset();
        panel.forget();
        panel.off(true, 0, true);
        due.is("count(2)", panel.count(2), 2);
        panel.key(1357);
        panel.poll();
        panel.reset();
        due.is("count(2)", panel.count(2), 1);
    }

    private static void keyIsNotLogged(Due due) {
        Real panel = at(1);
        panel.key(2468);
        panel.key(3);
        due.is("entries", Panels.entries(panel), 0);
    }

    private static void dueLevelOf(Due due, String name, int needed, Consumer<Real> call) {
        for (int level = 0; level <= 2; level++) {
            Real panel = at(level);
            String got = Due.answer(() -> {
                call.accept(panel);
                return "nothing";
            });
            due.is(name + " at level " + level, got, level < needed ? "throws.IllegalStateException" : "nothing");
        }
    }

    private static void levelOne(Due due) {
        dueLevelOf(due, "silence()", 1, Real::silence);
        dueLevelOf(due, "reset()", 1, Real::reset);
    }

    private static void levelTwo(Due due) {
        dueLevelOf(due, "fit(0, 1, 0, 1f)", 2, p -> p.fit(0, 1, 0, 1f));
        dueLevelOf(due, "need(0, 1)", 2, p -> p.need(0, 1));
        dueLevelOf(due, "rule()", 2, Real::rule);
        dueLevelOf(due, "forget()", 2, Real::forget);
        dueLevelOf(due, "off(true, 0, true)", 2, p -> p.off(true, 0, true));
        dueLevelOf(due, "off(false, 0, false)", 2, p -> p.off(false, 0, false));
    }

    private static void noLevel(Due due) {
        dueLevelOf(due, "wire(0, 1)", 0, p -> p.wire(0, 1));
        dueLevelOf(due, "reading(0, 1f)", 0, p -> p.reading(0, 1f));
        dueLevelOf(due, "type('f')", 0, p -> p.type('f'));
        dueLevelOf(due, "poll()", 0, Real::poll);
        dueLevelOf(due, "key(0)", 0, p -> p.key(0));
        dueLevelOf(due, "level(0)", 0, p -> p.level(0));
        dueLevelOf(due, "base(0)", 0, p -> p.base(0));
        dueLevelOf(due, "place(0)", 0, p -> p.place(0));
        dueLevelOf(due, "zone(0)", 0, p -> p.zone(0));
        dueLevelOf(due, "output(0)", 0, p -> p.output(0));
        dueLevelOf(due, "count(0)", 0, p -> p.count(0));
        Real panel = at(2);
        panel.reset();
        Panels.rule(panel, "f>1");
        panel.key(0);
        due.is("held(0) at level 0", panel.held(0), 0);
        due.is("log(0, 0) at level 0", panel.log(0, 0), 6);
    }

    private static void silenceComes(Due due) {
        for (int level = 1; level <= 2; level++) {
            Real panel = at(level);
            panel.poll();
            due.is("silence()", panel.silence(), true);
            due.is("count(3)", panel.count(3), 1);
            due.is("its entry", Panels.entry(panel, 0), "5 0 1");
        }
    }

    private static void silenceStays(Due due) {
        Real panel = at(1);
        panel.silence();
        due.is("silence()", panel.silence(), false);
        due.is("count(3)", panel.count(3), 1);
        due.is("entries", Panels.entries(panel), 1);
    }

    private static void silenceAnew(Due due) {
        Real panel = at(2);
        Panels.press(panel, 0, 0);
        panel.silence();
        panel.poll();
        due.is("silence() behind a fire", panel.silence(), true);
        panel.reset();
        due.is("silence() behind reset()", panel.silence(), true);
        due.is("entries", Panels.entries(panel), 5);
    }

    private static void outputsStayOn(Due due) {
        Real panel = at(2);
        Panels.rule(panel, "!f>0");
        panel.poll();
        panel.silence();
        due.is("output(0)", panel.output(0), 1);
        due.is("held(0)", panel.held(0), 1);
    }

    private static void silenceBelowLevelOne(Due due) {
        Real panel = at(0);
        due.refused("silence()", panel, Sentences.STATE, panel::silence);
        panel.key(1357);
        panel.silence();
        panel.key(0);
        due.refused("silence() in silence", panel, Sentences.STATE, panel::silence);
    }

    /** All four zones in fire by buttons that are let go again, six rules that drive six outputs. */
    private static Real allInFire() {
        Real panel = at(2);
        for (int zone = 0; zone < 4; zone++) {
            Panels.press(panel, zone, zone);
        }
        for (int output = 0; output < 6; output++) {
            Panels.rule(panel, "z0>" + output);
        }
        panel.poll();
        for (int zone = 0; zone < 4; zone++) {
            panel.reading(zone, 0f);
        }
        return panel;
    }

    private static void noFire(Due due) {
        Real panel = allInFire();
        panel.reset();
        for (int zone = 0; zone < 4; zone++) {
            due.is("zone(" + zone + ")", panel.zone(zone), 0);
        }
        due.is("poll()", panel.poll(), 0);
    }

    private static void noAlarm(Due due) {
        Real panel = at(2);
        for (int place = 0; place < 16; place++) {
            Panels.press(panel, place, 0);
        }
        panel.poll();
        panel.off(false, 15, true);
        panel.wire(7, 1);
        panel.wire(8, 1);
        panel.reset();
        for (int place = 0; place < 16; place++) {
            due.is("place(" + place + ")", panel.place(place), 48 + (place == 7 ? 0 : 1) + (place == 15 ? 8 : 0));
        }
    }

    private static Real twiceOver() {
        Real panel = at(2);
        panel.fit(0, Panels.SMOKE, 0, 10f);
        panel.fit(15, Panels.HEAT, 1, 10f);
        panel.reading(0, 100f);
        panel.reading(15, 100f);
        Panels.poll(panel, 2);
        return panel;
    }

    private static void overIsZero(Due due) {
        Real panel = twiceOver();
        panel.reset();
        due.is("poll() 1", panel.poll(), 0);
        due.is("poll() 2", panel.poll(), 0);
        due.is("poll() 3", panel.poll(), 2);
    }

    private static void overOfOff(Due due) {
        Real panel = twiceOver();
        panel.off(false, 0, true);
        panel.wire(15, 1);
        panel.wire(16, 1);
        panel.reset();
        panel.off(false, 0, false);
        panel.wire(15, 0);
        panel.wire(16, 0);
        due.is("poll() 1", panel.poll(), 0);
        due.is("poll() 2", panel.poll(), 0);
        due.is("poll() 3", panel.poll(), 2);
    }

    private static void heldIsZero(Due due) {
        Real panel = allInFire();
        panel.poll();
        panel.reset();
        for (int rule = 0; rule < 6; rule++) {
            due.is("held(" + rule + ")", panel.held(rule), 0);
        }
        panel = at(2);
        Panels.rule(panel, "!f>3:1");
        panel.poll();
        panel.reset();
        panel.poll();
        due.is("output(3), HELD 1 again", panel.output(3), 0);
    }

    private static void outputsOff(Due due) {
        Real panel = allInFire();
        due.is("output(5) before", panel.output(5), 3);
        panel.reset();
        for (int output = 0; output < 6; output++) {
            due.is("output(" + output + ")", panel.output(output), 0);
        }
    }

    private static void silenceOff(Due due) {
        Real panel = allInFire();
        panel.silence();
        panel.reset();
        due.is("count(3)", panel.count(3), 0);
    }

    private static void howMany(Due due) {
        due.is("reset() of a new panel", at(1).reset(), 0);
        Real panel = at(2);
        Panels.press(panel, 0, 3);
        panel.poll();
        due.is("reset() of one", panel.reset(), 1);
        due.is("reset() again", panel.reset(), 0);
        panel = allInFire();
        panel.off(true, 2, true);
        due.is("reset() of four, one of them off", panel.reset(), 4);
    }

    private static void resetIsLogged(Due due) {
        Real panel = at(1);
        panel.reset();
        due.is("its entry", Panels.entry(panel, 0), "6 0 0");
        panel.poll();
        panel.reset();
        due.is("its entry behind a poll", Panels.entry(panel, 0), "6 0 1");
        due.is("entries", Panels.entries(panel), 2);
        panel = allInFire();
        int before = Panels.entries(panel);
        panel.reset();
        due.is("entries of a reset of fires and outputs", Panels.entries(panel), before + 1);
    }

    private static void resetBelowLevelOne(Due due) {
        Real panel = allInFire();
        panel.silence();
        panel.key(0);
        due.refused("reset()", panel, Sentences.STATE, panel::reset);
    }

    private static void theRestStays(Due due) {
        Real panel = twiceOver();
        Panels.rule(panel, "z0>1");
        Panels.write(panel, "z1");
        panel.off(true, 3, true);
        panel.off(false, 9, true);
        panel.wire(15, 1);
        panel.wire(16, 1);
        Panels.poll(panel, 2);
        String levels = panel.level(0) + " " + panel.base(0) + " " + panel.level(15) + " " + panel.base(15);
        panel.reset();
        due.is("levels and bases", panel.level(0) + " " + panel.base(0) + " " + panel.level(15) + " "
                + panel.base(15), levels);
        due.is("place(15), at fault", panel.place(15), 32 + 4);
        due.is("place(9) and zone(3), off", panel.place(9) + " " + panel.zone(3), "9 4");
        due.is("polls, rules, level, pad, faults", panel.count(0) + " " + panel.count(1) + " " + panel.count(2) + " "
                + panel.count(4) + " " + panel.count(5), "4 1 2 2 1");
    }

    private static void missedAndNeedsStay(Due due) {
        Real panel = twiceOver();
        panel.need(0, 2);
        panel.wire(15, 1);
        panel.wire(16, 1);
        panel.poll();
        panel.reset();
        panel.poll();
        due.is("place(15), missed for the second time", panel.place(15), 32 + 4);
        Panels.poll(panel, 2);
        due.is("zone(0), one of two in alarm", panel.zone(0), 2);
    }
}
