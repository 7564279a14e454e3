/** Promises 20 and 21: log and count. */
public final class LogTest {
    public static void main(String[] args) {
        Due due = new Due();
        orderWithinAPoll(due);
        keepsSixteen(due);
        counts(due);
        refuses(due);
        due.end();
    }

    private static void orderWithinAPoll(Due due) {
        Real panel = Panels.atLevel2();
        panel.fit(1, Panels.ISOLATOR, 0, 1f);
        panel.fit(3, Panels.ISOLATOR, 0, 1f);
        panel.fit(2, Panels.SMOKE, 0, 1f);
        Panels.rule(panel, "z3&f>4");
        Panels.rule(panel, "z2>1");
        panel.wire(2, 2);
        panel.poll();
        Panels.press(panel, 5, 3);
        Panels.press(panel, 4, 2);
        panel.poll();
        due.is("entry 4", Panels.entry(panel, 4), "2 2 2");
        due.is("entry 3", Panels.entry(panel, 3), "1 2 2");
        due.is("entry 2", Panels.entry(panel, 2), "1 3 2");
        due.is("entry 1", Panels.entry(panel, 1), "4 1 2");
        due.is("entry 0", Panels.entry(panel, 0), "4 4 2");
        due.is("entries", Panels.entries(panel), 5);
    }

    private static void keepsSixteen(Due due) {
        Real panel = Panels.atLevel2();
        for (int i = 0; i < 16; i++) {
            due.is("entries", Panels.entries(panel), i);
            panel.off(false, i, true);
            panel.poll();
        }
        due.is("all sixteen", Panels.entries(panel), 16);
        due.is("the first", Panels.entry(panel, 15), "7 10 0");
        due.is("the latest", Panels.entry(panel, 0), "7 25 15");
        panel.silence();
        due.is("still sixteen", Panels.entries(panel), 16);
        due.is("the second", Panels.entry(panel, 15), "7 11 1");
        due.is("the one before the latest", Panels.entry(panel, 1), "7 25 15");
        due.is("the latest of all", Panels.entry(panel, 0), "5 0 16");
        for (int i = 0; i < 40; i++) {
            panel.poll();
            panel.reset();
        }
        for (int i = 0; i < 16; i++) {
            due.is("entry " + i, Panels.entry(panel, i), "6 0 " + (56 - i));
        }
    }

    private static void counts(Due due) {
        Real panel = Panels.atLevel2();
        Panels.poll(panel, 5);
        due.is("polls", panel.count(0), 5);
        Panels.rule(panel, "f>1");
        Panels.rule(panel, "f>1");
        due.is("rules", panel.count(1), 2);
        due.is("level", panel.count(2), 2);
        due.is("no silence", panel.count(3), 0);
        panel.silence();
        due.is("silence", panel.count(3), 1);
        Panels.write(panel, "f>1");
        due.is("pad", panel.count(4), 3);
        panel.fit(3, Panels.SMOKE, 0, 1f);
        panel.fit(4, Panels.HEAT, 1, 1f);
        panel.fit(5, Panels.ISOLATOR, 1, 1f);
        panel.fit(6, Panels.BUTTON, 2, 1f);
        panel.off(false, 4, true);
        panel.wire(0, 1);
        panel.wire(6, 1);
        Panels.poll(panel, 2);
        due.is("faults", panel.count(5), 2);
        panel.wire(16, 1);
        Panels.poll(panel, 2);
        due.is("one more fault", panel.count(5), 3);
        panel.fit(3, Panels.NOTHING, 0, 1f);
        due.is("a device taken away", panel.count(5), 2);
        panel.wire(0, 0);
        due.is("until a poll", panel.count(5), 2);
        panel.poll();
        due.is("behind it", panel.count(5), 1);
    }

    private static void refuses(Due due) {
        Real panel = Panels.atLevel2();
        Class<IllegalArgumentException> wrong = IllegalArgumentException.class;
        due.refused("log of an empty log", panel, wrong, () -> panel.log(0, 0));
        panel.reset();
        panel.reset();
        for (int i : new int[] {-1, 2, 16, Integer.MIN_VALUE, Integer.MAX_VALUE}) {
            due.refused("log of entry " + i, panel, wrong, () -> panel.log(i, 0));
        }
        for (int word : new int[] {-1, 3, Integer.MIN_VALUE, Integer.MAX_VALUE}) {
            due.refused("log of word " + word, panel, wrong, () -> panel.log(1, word));
        }
        for (int i = 0; i < 30; i++) {
            panel.reset();
        }
        due.refused("log of entry 16", panel, wrong, () -> panel.log(16, 0));
        for (int what : new int[] {-1, 6, Integer.MIN_VALUE, Integer.MAX_VALUE}) {
            due.refused("count of " + what, panel, wrong, () -> panel.count(what));
        }
    }
}
