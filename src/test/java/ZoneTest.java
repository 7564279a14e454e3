import java.util.NoSuchElementException;

/** Promises 9 (its part 2), 13 and 17: fires, warnings, and what is off. */
public final class ZoneTest {
    public static void main(String[] args) {
        Due due = new Due();
        firesByNeed(due);
        buttonAlone(due);
        severalZonesAtOnce(due);
        warnings(due);
        zoneOff(due);
        placeOff(due);
        fireStays(due);
        offAnswers(due);
        refuses(due);
        due.end();
    }

    private static void heat(Real panel, int place, int zone) {
        panel.fit(place, Panels.HEAT, zone, 1f);
        panel.reading(place, 100f);
    }

    private static void firesByNeed(Due due) {
        Real panel = Panels.atLevel2();
        panel.need(1, 2);
        heat(panel, 0, 1);
        heat(panel, 1, 2);
        Panels.poll(panel, 2);
        due.is("poll 3", panel.poll(), 1);
        due.is("one of two", panel.zone(1), 2);
        due.is("one of one", panel.zone(2), 3);
        due.is("its entry", Panels.entry(panel, 0), "1 2 3");
        panel.need(1, 1);
        due.is("need alone makes no fire", panel.zone(1), 2);
        due.is("the next poll does", panel.poll(), 1);
        due.is("in fire", panel.zone(1), 3);
    }

    private static void buttonAlone(Due due) {
        Real panel = Panels.atLevel2();
        panel.need(0, 3);
        Panels.press(panel, 8, 0);
        panel.off(false, 8, true);
        due.is("a button that is off", panel.poll(), 0);
        panel.off(false, 8, false);
        due.is("one that is not", panel.poll(), 1);
        due.is("it stays one fire", panel.poll(), 0);
    }

    private static void severalZonesAtOnce(Due due) {
        Real panel = Panels.atLevel2();
        for (int zone = 0; zone < 4; zone++) {
            Panels.press(panel, 10 - zone, zone);
        }
        due.is("poll", panel.poll(), 4);
        for (int i = 0; i < 4; i++) {
            due.is("entry " + i, Panels.entry(panel, i), "1 " + (3 - i) + " 1");
        }
    }

    private static void warnings(Due due) {
        Real panel = Panels.atLevel2();
        panel.fit(3, Panels.SMOKE, 2, 16f);
        panel.reading(3, 24f);
        panel.poll();
        due.is("at three quarters", panel.zone(2), 2);
        due.is("another zone", panel.zone(1), 0);
        panel.off(false, 3, true);
        due.is("with the smoke off", panel.zone(2), 0);
        panel.off(false, 3, false);
        panel.off(true, 2, true);
        due.is("with the zone off", panel.zone(2), 6);
        panel = Panels.atLevel2();
        panel.fit(3, Panels.SMOKE, 2, 16f);
        panel.reading(3, Math.nextDown(24f));
        panel.poll();
        due.is("just below three quarters", panel.zone(2), 0);
        panel = Panels.atLevel2();
        panel.fit(3, Panels.HEAT, 2, 16f);
        panel.reading(3, 100f);
        panel.poll();
        due.is("a heat's level is no warning", panel.zone(2), 0);
        panel.need(2, 2);
        Panels.poll(panel, 2);
        due.is("a heat's alarm is one", panel.zone(2), 2);
        panel.off(false, 3, true);
        due.is("not with the heat off", panel.zone(2), 0);
    }

    private static void zoneOff(Due due) {
        Real panel = Panels.atLevel2();
        panel.off(true, 1, true);
        Panels.press(panel, 0, 1);
        due.is("poll while off", panel.poll(), 0);
        due.is("alarm but no fire", panel.zone(1) + " " + panel.place(0), "6 51");
        panel.off(true, 1, false);
        due.is("poll when on again", panel.poll(), 1);
        panel.off(true, 1, true);
        panel.poll();
        due.is("off does not end a fire", panel.zone(1), 7);
    }

    private static void placeOff(Due due) {
        Real panel = Panels.atLevel2();
        panel.need(0, 2);
        heat(panel, 0, 0);
        heat(panel, 1, 0);
        Panels.poll(panel, 2);
        panel.off(false, 0, true);
        due.is("one is off before its alarm", panel.poll(), 0);
        panel.off(false, 0, false);
        due.is("both", panel.poll(), 1);
        panel.reset();
        Panels.poll(panel, 3);
        panel.reset();
        panel.need(0, 1);
        Panels.poll(panel, 2);
        panel.off(true, 0, true);
        panel.poll();
        panel.off(false, 0, true);
        panel.off(false, 1, true);
        panel.off(true, 0, false);
        due.is("alarms of what is off", panel.poll() + " " + panel.place(0), "0 43");
    }

    private static void fireStays(Due due) {
        Real panel = Panels.atLevel2();
        Panels.press(panel, 0, 3);
        panel.poll();
        panel.fit(0, Panels.NOTHING, 0, 1f);
        panel.poll();
        due.is("without its device", panel.zone(3), 1);
        panel.reset();
        due.is("until reset", panel.zone(3), 0);
        due.is("and no new one", panel.poll(), 0);
    }

    private static void offAnswers(Due due) {
        Real panel = Panels.atLevel2();
        due.is("a place that is on", panel.off(false, 15, false), false);
        due.is("a zone that is on", panel.off(true, 3, false), false);
        due.is("no entries", Panels.entries(panel), 0);
        panel.poll();
        due.is("a place off", panel.off(false, 15, true), true);
        due.is("its entry", Panels.entry(panel, 0), "7 25 1");
        due.is("again", panel.off(false, 15, true), false);
        due.is("the zone of its number", panel.off(true, 3, true), true);
        due.is("its entry", Panels.entry(panel, 0), "7 3 1");
        due.is("the place of the same number", panel.place(3), 1);
        due.is("a place on", panel.off(false, 15, false), true);
        due.is("its entry", Panels.entry(panel, 0), "7 25 1");
        due.is("a zone on", panel.off(true, 3, false), true);
        due.is("four entries", Panels.entries(panel), 4);
        for (int zone = 0; zone < 4; zone++) {
            due.is("zone " + zone + " off", panel.off(true, zone, true) + " " + panel.zone(zone), "true 4");
        }
        for (int place = 0; place < 16; place++) {
            due.is("place " + place + " off", panel.off(false, place, true) + " " + panel.place(place), "true 9");
        }
    }

    private static void refuses(Due due) {
        Real panel = Panels.atLevel2();
        Class<NoSuchElementException> none = NoSuchElementException.class;
        for (int zone : new int[] {-1, 4, Integer.MIN_VALUE, Integer.MAX_VALUE}) {
            due.refused("off of zone " + zone, panel, none, () -> panel.off(true, zone, true));
            due.refused("zone " + zone, panel, none, () -> panel.zone(zone));
        }
        for (int place : new int[] {-1, 16, Integer.MIN_VALUE, Integer.MAX_VALUE}) {
            due.refused("off of place " + place, panel, none, () -> panel.off(false, place, true));
        }
        panel.key(1357);
        due.refused("off at level 1", panel, IllegalStateException.class, () -> panel.off(false, 4, true));
        due.refused("no change at level 1", panel, IllegalStateException.class, () -> panel.off(true, 0, false));
        due.refused("zone before level", panel, none, () -> panel.off(true, 4, true));
    }
}
