import java.util.NoSuchElementException;

/** Promises 4 and 16: wire, and what a break or a short cuts off. */
public final class RingTest {
    public static void main(String[] args) {
        Due due = new Due();
        oneBreakCutsNothing(due);
        twoBreaks(due);
        shortWithoutIsolators(due);
        shortBetweenIsolators(due);
        shortAtTheEnds(due);
        breakInAndBesideDeadStretch(due);
        isolatorFittedAndTakenAway(due);
        placeTellsAll(due);
        refuses(due);
        due.end();
    }

    /** A character a place: R reached, - not. */
    private static String reached(Real panel) {
        StringBuilder text = new StringBuilder();
        for (int i = 0; i < 16; i++) {
            text.append((panel.place(i) & 1) == 1 ? 'R' : '-');
        }
        return text.toString();
    }

    private static void oneBreakCutsNothing(Due due) {
        for (int k = 0; k <= 16; k++) {
            Real panel = new Real();
            panel.wire(k, 1);
            due.is("break of wire " + k, reached(panel), "RRRRRRRRRRRRRRRR");
        }
    }

    private static void twoBreaks(Due due) {
        Real panel = new Real();
        panel.wire(5, 1);
        panel.wire(10, 1);
        due.is("breaks of 5 and 10", reached(panel), "RRRRR-----RRRRRR");
        panel.wire(10, 0);
        due.is("10 whole again", reached(panel), "RRRRRRRRRRRRRRRR");
        panel.wire(6, 1);
        due.is("breaks of 5 and 6", reached(panel), "RRRRR-RRRRRRRRRR");
        panel.wire(5, 0);
        panel.wire(6, 0);
        panel.wire(0, 1);
        panel.wire(16, 1);
        due.is("breaks at both ends", reached(panel), "----------------");
    }

    private static void shortWithoutIsolators(Due due) {
        for (int k = 0; k <= 16; k++) {
            Real panel = new Real();
            panel.wire(k, 2);
            due.is("short of wire " + k, reached(panel), "----------------");
        }
    }

    private static Real withIsolators(int... places) {
        Real panel = Panels.atLevel2();
        for (int place : places) {
            panel.fit(place, Panels.ISOLATOR, 0, 1f);
        }
        return panel;
    }

    private static void shortBetweenIsolators(Due due) {
        for (int k = 7; k <= 10; k++) {
            Real panel = withIsolators(6, 10);
            panel.wire(k, 2);
            due.is("short of wire " + k, reached(panel), "RRRRRRR---RRRRRR");
        }
        Real panel = withIsolators(6, 10);
        panel.wire(6, 2);
        due.is("short of wire 6", reached(panel), "------RRRRRRRRRR");
        panel.wire(6, 0);
        panel.wire(11, 2);
        due.is("short of wire 11", reached(panel), "RRRRRRRRRRR-----");
        panel.wire(0, 2);
        due.is("shorts of 0 and 11", reached(panel), "----------------");
        panel = withIsolators(6, 7);
        panel.wire(7, 2);
        due.is("short between neighbours", reached(panel), "RRRRRRRRRRRRRRRR");
    }

    private static void shortAtTheEnds(Due due) {
        Real panel = withIsolators(0, 15);
        panel.wire(0, 2);
        due.is("short of wire 0", reached(panel), "RRRRRRRRRRRRRRRR");
        panel.wire(16, 2);
        due.is("shorts of 0 and 16", reached(panel), "----------------");
        panel.wire(0, 0);
        due.is("short of wire 16", reached(panel), "RRRRRRRRRRRRRRRR");
        panel.wire(1, 2);
        due.is("shorts of 1 and 16", reached(panel), "R---------------");
        panel.wire(16, 0);
        due.is("short of wire 1", reached(panel), "R--------------R");
    }

    private static void breakInAndBesideDeadStretch(Due due) {
        Real panel = withIsolators(4, 8);
        panel.wire(6, 2);
        panel.wire(7, 1);
        due.is("a break in a dead stretch", reached(panel), "RRRRR---RRRRRRRR");
        panel.wire(2, 1);
        due.is("and one in front of it", reached(panel), "RR------RRRRRRRR");
        panel.wire(12, 1);
        due.is("and one behind it", reached(panel), "RR----------RRRR");
        panel.wire(6, 1);
        due.is("a short that becomes a break", reached(panel), "RR----------RRRR");
    }

    private static void isolatorFittedAndTakenAway(Due due) {
        Real panel = withIsolators(8);
        panel.wire(12, 2);
        due.is("one isolator", reached(panel), "RRRRRRRRR-------");
        panel.off(false, 8, true);
        due.is("one that is off parts all the same", reached(panel), "RRRRRRRRR-------");
        panel.fit(8, Panels.SMOKE, 0, 1f);
        due.is("a smoke instead", reached(panel), "----------------");
    }

    private static void placeTellsAll(Due due) {
        Real panel = Panels.atLevel2();
        Panels.press(panel, 9, 1);
        due.is("a button", panel.place(9), 49);
        panel.poll();
        due.is("in alarm", panel.place(9), 51);
        panel.wire(9, 1);
        panel.wire(10, 1);
        due.is("not reached", panel.place(9), 50);
        Panels.poll(panel, 2);
        due.is("at fault", panel.place(9), 54);
        panel.off(false, 9, true);
        due.is("off", panel.place(9), 62);
    }

    private static void refuses(Due due) {
        Real panel = new Real();
        panel.wire(3, 1);
        Class<NoSuchElementException> none = NoSuchElementException.class;
        for (int wire : new int[] {-1, 17, Integer.MIN_VALUE, Integer.MAX_VALUE}) {
            due.refused("wire " + wire, panel, none, () -> panel.wire(wire, 3));
        }
        for (int how : new int[] {-1, 3, Integer.MIN_VALUE, Integer.MAX_VALUE}) {
            due.refused("wire how " + how, panel, IllegalArgumentException.class, () -> panel.wire(0, how));
        }
        for (int place : new int[] {-1, 16, Integer.MIN_VALUE, Integer.MAX_VALUE}) {
            due.refused("place " + place, panel, none, () -> panel.place(place));
        }
        panel.wire(16, 1);
        due.is("wire needs no level", reached(panel), "RRR-------------");
    }
}
