import java.util.NoSuchElementException;

/** Promises 2 and 3: fit and need. */
public final class FittingTest {
    private static final float BELOW_LEAST = Math.nextDown(0.5f);
    private static final float ABOVE_MOST = Math.nextUp(100f);

    public static void main(String[] args) {
        Due due = new Due();
        kindsAndEdges(due);
        beginsAnew(due);
        keepsReadingAndOff(due);
        fitRefuses(due);
        needCounts(due);
        needRefuses(due);
        due.end();
    }

    private static void kindsAndEdges(Due due) {
        Real panel = Panels.atLevel2();
        for (int kind = 0; kind <= 4; kind++) {
            panel.fit(15, kind, 3, 0.5f);
            due.is("place of kind " + kind, panel.place(15), 1 + 16 * kind);
            panel.fit(0, kind, 0, 100f);
            due.is("place of kind " + kind, panel.place(0), 1 + 16 * kind);
        }
        due.is("fit is not logged", Panels.entries(panel), 0);
    }

    private static void beginsAnew(Due due) {
        Real panel = Panels.atLevel2();
        panel.fit(4, Panels.HEAT, 0, 1f);
        panel.reading(4, 100f);
        Panels.poll(panel, 3);
        panel.wire(4, 1);
        panel.wire(5, 1);
        Panels.poll(panel, 2);
        due.is("place before", panel.place(4), 2 + 4 + 32);
        panel.fit(4, Panels.HEAT, 0, 30f);
        due.is("place behind", panel.place(4), 32);
        due.is("level behind", panel.level(4), 0f);
        due.is("base behind", panel.base(4), 0f);
        due.is("faults behind", panel.count(5), 0);
        due.is("the zone stays in fire", panel.zone(0), 1);
        due.is("fit logs no end of a fault", panel.log(0, 0), 2);
        panel.poll();
        due.is("missed began anew", panel.place(4), 32);
        panel.poll();
        due.is("missed twice again", panel.place(4), 36);
        panel.wire(4, 0);
        panel.poll();
        due.is("the reading stayed", panel.level(4), 425f);
        panel.fit(4, Panels.SMOKE, 0, 0.5f);
        Panels.poll(panel, 2);
        panel.fit(4, Panels.SMOKE, 0, 0.5f);
        Panels.poll(panel, 2);
        due.is("over began anew", panel.place(4), 17);
        panel.poll();
        due.is("over is 3", panel.place(4), 19);
    }

    private static void keepsReadingAndOff(Due due) {
        Real panel = Panels.atLevel2();
        panel.reading(2, 8f);
        panel.off(false, 2, true);
        panel.fit(2, Panels.BUTTON, 1, 1f);
        due.is("off stays", panel.place(2), 1 + 8 + 48);
        due.is("poll while off", panel.poll(), 0);
        panel.off(false, 2, false);
        due.is("poll with the old reading", panel.poll(), 1);
    }

    private static void fitRefuses(Due due) {
        Real panel = Panels.atLevel2();
        panel.fit(1, Panels.SMOKE, 1, 10f);
        Class<NoSuchElementException> none = NoSuchElementException.class;
        Class<IllegalArgumentException> wrong = IllegalArgumentException.class;
        for (int place : new int[] {-1, 16, Integer.MIN_VALUE, Integer.MAX_VALUE}) {
            due.refused("fit at " + place, panel, none, () -> panel.fit(place, 1, 0, 10f));
        }
        for (int zone : new int[] {-1, 4, Integer.MIN_VALUE, Integer.MAX_VALUE}) {
            due.refused("fit in zone " + zone, panel, none, () -> panel.fit(1, 4, zone, 10f));
        }
        for (int kind : new int[] {-1, 5, Integer.MIN_VALUE, Integer.MAX_VALUE}) {
            due.refused("fit of kind " + kind, panel, wrong, () -> panel.fit(1, kind, 0, 10f));
        }
        for (float t : new float[] {BELOW_LEAST, ABOVE_MOST, 0f, -1f, Float.NaN, Float.POSITIVE_INFINITY,
                Float.NEGATIVE_INFINITY}) {
            due.refused("fit with " + t, panel, wrong, () -> panel.fit(1, 0, 0, t));
        }
        due.refused("fit: zone before kind", panel, none, () -> panel.fit(1, 9, 9, 0f));
        panel.key(1357);
        due.refused("fit at level 1", panel, IllegalStateException.class, () -> panel.fit(1, 1, 0, 10f));
        due.refused("fit: kind before level", panel, wrong, () -> panel.fit(1, 5, 0, 10f));
        due.refused("fit: place before level", panel, none, () -> panel.fit(16, 5, 0, 10f));
    }

    private static void needCounts(Due due) {
        for (int many = 1; many <= 4; many++) {
            Real panel = Panels.atLevel2();
            panel.need(2, many);
            for (int i = 0; i < 4; i++) {
                panel.fit(i, Panels.HEAT, 2, 1f);
                panel.reading(i, 100f);
                Panels.poll(panel, 2);
                due.is("poll with " + (i + 1) + " of " + many, panel.poll(), i + 1 == many ? 1 : 0);
            }
        }
        Real panel = Panels.atLevel2();
        panel.need(3, 4);
        Panels.press(panel, 0, 3);
        due.is("a button does alone", panel.poll(), 1);
    }

    private static void needRefuses(Due due) {
        Real panel = Panels.atLevel2();
        for (int zone : new int[] {-1, 4, Integer.MIN_VALUE, Integer.MAX_VALUE}) {
            due.refused("need of zone " + zone, panel, NoSuchElementException.class, () -> panel.need(zone, 0));
        }
        for (int many : new int[] {0, 5, -1, Integer.MIN_VALUE, Integer.MAX_VALUE}) {
            due.refused("need of " + many, panel, IllegalArgumentException.class, () -> panel.need(0, many));
        }
        panel.key(1357);
        due.refused("need at level 1", panel, IllegalStateException.class, () -> panel.need(0, 4));
        due.refused("need: many before level", panel, IllegalArgumentException.class, () -> panel.need(0, 5));
        panel.key(2468);
        panel.fit(0, Panels.HEAT, 0, 1f);
        panel.reading(0, 100f);
        Panels.poll(panel, 2);
        due.is("a refused need changed nothing", panel.poll(), 1);
    }
}
