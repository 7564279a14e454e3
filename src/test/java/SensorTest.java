import java.util.NoSuchElementException;

/** Promises 5, 9 (its part 1), 14 and 15: readings, and what a poll makes of them. */
public final class SensorTest {
    public static void main(String[] args) {
        Due due = new Due();
        smokeIsSmoothed(due);
        smokeFollowsItsDirt(due);
        smokeAtItsThreshold(due);
        overStartsAgain(due);
        heat(due);
        heatFalls(due);
        button(due);
        faults(due);
        missedInARow(due);
        offIsNotSensedButAsked(due);
        isolatorAndNothingAreNotAsked(due);
        refuses(due);
        due.end();
    }

    private static Real with(int kind, float threshold) {
        Real panel = Panels.atLevel2();
        panel.fit(7, kind, 2, threshold);
        return panel;
    }

    private static void read(Real panel, float v) {
        panel.reading(7, v);
        panel.poll();
    }

    private static void dueState(Due due, String what, Real panel, float level, float base) {
        due.is("level " + what, panel.level(7), level);
        due.is("base " + what, panel.base(7), base);
    }

    private static void smokeIsSmoothed(Due due) {
        Real panel = with(Panels.SMOKE, 10f);
        panel.reading(7, 12f);
        dueState(due, "before a poll", panel, 0f, 0f);
        panel.poll();
        dueState(due, "of poll 1", panel, 6f, 0.75f);
        panel.poll();
        dueState(due, "of poll 2", panel, 8.625f, 1.453125f);
        panel.poll();
        dueState(due, "of poll 3", panel, 9.5859375f, 2.1123047f);
        read(panel, -100f);
        dueState(due, "of a low reading", panel, -46.263184f, -4.2697144f);
    }

    private static void smokeFollowsItsDirt(Due due) {
        Real panel = with(Panels.SMOKE, 1f);
        read(panel, 16f);
        dueState(due, "over the threshold", panel, 8f, 0f);
        read(panel, -8f);
        dueState(due, "at 0", panel, 0f, -0.5f);
        read(panel, 0.1f);
        dueState(due, "of a tenth", panel, 0.3f, -0.4625f);
    }

    private static void smokeAtItsThreshold(Due due) {
        Real panel = with(Panels.SMOKE, 6f);
        read(panel, 12f);
        dueState(due, "at the threshold", panel, 6f, 0f);
        panel = with(Panels.SMOKE, Math.nextUp(6f));
        read(panel, 12f);
        dueState(due, "just below", panel, 6f, 0.75f);
    }

    private static void overStartsAgain(Due due) {
        Real panel = with(Panels.SMOKE, 10f);
        read(panel, 100f);
        panel.poll();
        due.is("over twice", panel.place(7), 17);
        read(panel, -100f);
        due.is("below once", panel.place(7), 17);
        read(panel, 200f);
        panel.poll();
        due.is("over twice again", panel.place(7), 17);
        due.is("the third time", panel.poll(), 1);
        due.is("in alarm", panel.place(7), 19);
        read(panel, -100f);
        Panels.poll(panel, 3);
        due.is("stays in alarm", panel.place(7), 19);
    }

    private static void heat(Due due) {
        Real panel = with(Panels.HEAT, 50f);
        read(panel, 20f);
        dueState(due, "of poll 1", panel, 85f, 20f);
        read(panel, 31f);
        dueState(due, "of poll 2", panel, 51.75f, 31f);
        due.is("over twice", panel.place(7), 33);
        panel.reading(7, 41.6f);
        due.is("poll 3", panel.poll(), 1);
        dueState(due, "of poll 3", panel, (41.6f - 31f) * 4f + 41.6f * 0.25f, 41.6f);
        panel = with(Panels.HEAT, 50f);
        panel.reading(7, 200f);
        Panels.poll(panel, 3);
        dueState(due, "of a steady heat", panel, 50f, 200f);
        due.is("at the threshold it is over", panel.place(7), 35);
    }

    private static void heatFalls(Due due) {
        Real panel = with(Panels.HEAT, 50f);
        read(panel, 100f);
        read(panel, 190f);
        read(panel, 190f);
        dueState(due, "below the threshold", panel, 47.5f, 190f);
        read(panel, 200f);
        panel.poll();
        due.is("over twice behind that", panel.place(7), 33);
        due.is("the third time", panel.poll(), 1);
        read(panel, -100f);
        dueState(due, "of a fall", panel, -1225f, -100f);
    }

    private static void button(Due due) {
        Real panel = with(Panels.BUTTON, 100f);
        panel.reading(7, 0f);
        due.is("poll at 0", panel.poll(), 0);
        read(panel, -5f);
        dueState(due, "below 0", panel, -5f, 0f);
        due.is("not pressed", panel.place(7), 49);
        panel.reading(7, Float.MIN_VALUE);
        due.is("poll above 0", panel.poll(), 1);
        dueState(due, "pressed", panel, Float.MIN_VALUE, 0f);
        read(panel, 0f);
        dueState(due, "released", panel, 0f, 0f);
        due.is("still in alarm", panel.place(7), 51);
    }

    private static void faults(Due due) {
        Real panel = with(Panels.SMOKE, 10f);
        panel.wire(7, 1);
        panel.wire(8, 1);
        panel.reading(7, 100f);
        panel.poll();
        due.is("missed once", panel.place(7), 16);
        due.is("no entry yet", Panels.entries(panel), 0);
        panel.poll();
        due.is("missed twice", panel.place(7), 20);
        due.is("the fault's entry", Panels.entry(panel, 0), "2 7 2");
        Panels.poll(panel, 3);
        due.is("one entry", Panels.entries(panel), 1);
        due.is("not sensed", panel.level(7), 0f);
        panel.wire(8, 0);
        due.is("at fault until the poll", panel.place(7), 21);
        panel.poll();
        due.is("no more", panel.place(7), 17);
        due.is("its entry", Panels.entry(panel, 0), "3 7 6");
        due.is("sensed at once", panel.level(7), 50f);
        panel.poll();
        due.is("two entries", Panels.entries(panel), 2);
    }

    private static void missedInARow(Due due) {
        Real panel = with(Panels.HEAT, 10f);
        for (int i = 0; i < 3; i++) {
            panel.wire(0, 2);
            panel.poll();
            panel.wire(0, 0);
            panel.poll();
        }
        due.is("entries of single misses", Panels.entries(panel), 0);
        panel.wire(0, 2);
        panel.poll();
        panel.reset();
        panel.poll();
        due.is("reset leaves missed alone", panel.place(7), 36);
    }

    private static void offIsNotSensedButAsked(Due due) {
        Real panel = with(Panels.BUTTON, 10f);
        panel.off(false, 7, true);
        panel.reading(7, 5f);
        due.is("poll while off", panel.poll(), 0);
        dueState(due, "while off", panel, 0f, 0f);
        panel.wire(3, 2);
        Panels.poll(panel, 2);
        due.is("off and at fault", panel.place(7), 60);
        panel.wire(3, 0);
        panel.poll();
        due.is("off and reached", panel.place(7), 57);
        due.is("its entry", Panels.entry(panel, 0), "3 7 4");
    }

    private static void isolatorAndNothingAreNotAsked(Due due) {
        for (int kind : new int[] {Panels.NOTHING, Panels.ISOLATOR}) {
            Real panel = with(kind, 0.5f);
            panel.reading(7, 200f);
            Panels.poll(panel, 4);
            dueState(due, "of kind " + kind, panel, 0f, 0f);
            panel.wire(7, 2);
            panel.wire(8, 2);
            Panels.poll(panel, 4);
            due.is("place of kind " + kind, panel.place(7), 16 * kind);
            due.is("entries", Panels.entries(panel), 0);
        }
    }

    private static void refuses(Due due) {
        Real panel = with(Panels.BUTTON, 10f);
        Class<NoSuchElementException> none = NoSuchElementException.class;
        for (int place : new int[] {-1, 16, Integer.MIN_VALUE, Integer.MAX_VALUE}) {
            due.refused("reading at " + place, panel, none, () -> panel.reading(place, 999f));
            due.refused("level of " + place, panel, none, () -> panel.level(place));
            due.refused("base of " + place, panel, none, () -> panel.base(place));
        }
        panel.reading(7, -100f);
        for (float v : new float[] {Math.nextDown(-100f), Math.nextUp(200f), Float.NaN, Float.POSITIVE_INFINITY,
                Float.NEGATIVE_INFINITY, Float.MAX_VALUE}) {
            due.refused("reading of " + v, panel, IllegalArgumentException.class, () -> panel.reading(7, v));
        }
        panel.poll();
        due.is("the reading is the old one", panel.level(7), -100f);
        panel.key(0);
        read(panel, 200f);
        due.is("reading needs no level", panel.level(7), 200f);
    }
}
