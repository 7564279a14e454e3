/** Promises 10, 11 and 12: key, silence and reset. */
public final class KeyTest {
    public static void main(String[] args) {
        Due due = new Due();
        keys(due);
        silence(due);
        reset(due);
        resetBeginsCountsAnew(due);
        resetLeavesTheRest(due);
        refuses(due);
        due.end();
    }

    private static void keys(Due due) {
        Real panel = new Real();
        due.is("key(1357)", panel.key(1357) + " " + panel.count(2), "1 1");
        due.is("key(2468)", panel.key(2468) + " " + panel.count(2), "2 2");
        due.is("key(1357) again", panel.key(1357) + " " + panel.count(2), "1 1");
        for (int code : new int[] {0, 1, 2, 1356, 1358, 2467, 2469, -1357, -2468, Integer.MIN_VALUE}) {
            panel.key(2468);
            due.is("key(" + code + ")", panel.key(code) + " " + panel.count(2), "0 0");
        }
        due.is("keys are not logged", Panels.entries(panel), 0);
    }

    private static void silence(Due due) {
        Real panel = new Real();
        panel.key(1357);
        panel.poll();
        due.is("silence", panel.silence() + " " + panel.count(3), "true 1");
        due.is("its entry", Panels.entry(panel, 0), "5 0 1");
        due.is("silence again", panel.silence() + " " + panel.count(3), "false 1");
        due.is("one entry", Panels.entries(panel), 1);
        panel.key(2468);
        Panels.press(panel, 0, 0);
        panel.poll();
        due.is("a fire ends it", panel.count(3), 0);
        due.is("with the fire's entry alone", Panels.entries(panel), 2);
        due.is("silence anew", panel.silence(), true);
        panel.poll();
        due.is("an old fire does not end it", panel.count(3), 1);
    }

    private static void reset(Due due) {
        Real panel = Panels.atLevel2();
        due.is("reset of nothing", panel.reset(), 0);
        due.is("is logged", Panels.entry(panel, 0), "6 0 0");
        Panels.press(panel, 0, 0);
        Panels.press(panel, 1, 2);
        Panels.rule(panel, "z0>0");
        Panels.rule(panel, "z2>5:3");
        panel.poll();
        panel.reading(0, 0f);
        panel.reading(1, 0f);
        panel.silence();
        panel.key(1357);
        due.is("reset at level 1", panel.reset(), 2);
        due.is("its entry", Panels.entry(panel, 0), "6 0 1");
        due.is("zones", panel.zone(0) + " " + panel.zone(2), "0 0");
        due.is("places", panel.place(0) + " " + panel.place(1), "49 49");
        due.is("outputs", panel.output(0) + " " + panel.output(5), "0 0");
        due.is("held", panel.held(0) + " " + panel.held(1), "0 0");
        due.is("silence", panel.count(3), 0);
        due.is("poll", panel.poll(), 0);
        due.is("buttons are let go", panel.place(0) + " " + panel.place(1), "49 49");
        due.is("the level stays", panel.count(2), 1);
    }

    private static void resetBeginsCountsAnew(Due due) {
        Real panel = Panels.atLevel2();
        panel.fit(0, Panels.SMOKE, 0, 10f);
        panel.reading(0, 100f);
        Panels.poll(panel, 2);
        panel.reset();
        Panels.poll(panel, 2);
        due.is("over twice behind reset", panel.place(0), 17);
        due.is("three times", panel.poll(), 1);
        panel.reset();
        due.is("the level stays a warning", panel.zone(0), 2);
    }

    private static void resetLeavesTheRest(Due due) {
        Real panel = Panels.atLevel2();
        panel.fit(0, Panels.SMOKE, 0, 10f);
        panel.fit(1, Panels.HEAT, 0, 10f);
        panel.reading(0, 8f);
        panel.reading(1, 4f);
        panel.poll();
        panel.wire(1, 1);
        panel.wire(2, 1);
        Panels.poll(panel, 2);
        panel.off(false, 0, true);
        panel.off(true, 3, true);
        Panels.write(panel, "z0");
        panel.reset();
        due.is("level and base", panel.level(0) + " " + panel.base(0), "6.390625 1.4082031");
        due.is("of the heat too", panel.level(1) + " " + panel.base(1), "17.0 4.0");
        due.is("the fault", panel.place(1), 36);
        due.is("what is off", panel.place(0) + " " + panel.zone(3), "25 4");
        due.is("polls and pad", panel.count(0) + " " + panel.count(4), "3 2");
        due.is("the log", Panels.entries(panel), 4);
    }

    private static void refuses(Due due) {
        Real panel = Panels.atLevel2();
        Panels.press(panel, 0, 0);
        Panels.rule(panel, "z0>0");
        panel.poll();
        panel.key(0);
        due.refused("silence at level 0", panel, IllegalStateException.class, panel::silence);
        due.refused("reset at level 0", panel, IllegalStateException.class, panel::reset);
        panel.key(1357);
        panel.silence();
        panel.key(0);
        due.refused("silence in silence at level 0", panel, IllegalStateException.class, panel::silence);
    }
}
