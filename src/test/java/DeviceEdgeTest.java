/** Terms of a device, promises 2, 5, 14 and 15: each sentence with its edges. */
public final class DeviceEdgeTest {
    private static final int[] NO_PLACES = {-1, 16, 32, Integer.MIN_VALUE, Integer.MAX_VALUE};
    private static final int[] NO_ZONES = {-1, 4, 8, Integer.MIN_VALUE, Integer.MAX_VALUE};
    private static final float[] NO_NUMBERS = {Float.NaN, Float.POSITIVE_INFINITY, Float.NEGATIVE_INFINITY};

    public static void main(String[] args) {
        Sentences.end(fit(), fitRefused(), beginsAnew(), reading(), level(), base());
    }

    private static Sentences fit() {
        return new Sentences("Promise 2")
                .holds("A device is fitted at a place.", "the first and the last place", DeviceEdgeTest::firstAndLast)
                .holds("A device is fitted at a place.", "there alone", DeviceEdgeTest::thereAlone)
                .holds("A device is fitted at a place.", "instead of another, or nothing", DeviceEdgeTest::instead)
                .holds("A device is fitted at a place.", "it is not logged", DeviceEdgeTest::fitIsNotLogged)
                .holds("A DEVICE has a ZONE 0 .. 3", "each zone", DeviceEdgeTest::eachZone)
                .holds("and a THRESHOLD (a float)", "of its own", DeviceEdgeTest::thresholdOfItsOwn)
                .holds("threshold not 0.5f .. 100f", "the least and the most", DeviceEdgeTest::leastAndMostThreshold);
    }

    private static Sentences fitRefused() {
        return new Sentences("Promise 2")
                .holds("NoSuchElementException", "places below 0 and above 15", DeviceEdgeTest::fitNoSuchPlace)
                .holds("NoSuchElementException", "zones below 0 and above 3", DeviceEdgeTest::fitNoSuchZone)
                .holds("kind is not 0 .. 4", "too small and too large", DeviceEdgeTest::fitWrongKind)
                .holds("threshold not 0.5f .. 100f", "too small", DeviceEdgeTest::fitThresholdTooSmall)
                .holds("threshold not 0.5f .. 100f", "too large", DeviceEdgeTest::fitThresholdTooLarge)
                .holds("threshold not 0.5f .. 100f", "no number", DeviceEdgeTest::fitThresholdNoNumber)
                .holds("LEVEL 2", "levels 0 and 1", DeviceEdgeTest::fitBelowLevelTwo)
                .holds("a call ends by the first that holds", "no such place or zone before a wrong kind",
                        DeviceEdgeTest::fitNoSuchFirst)
                .holds("a call ends by the first that holds", "each of them before the level",
                        DeviceEdgeTest::fitLevelLast)
                .holds("Such a call changes nothing", "the device and its counts", DeviceEdgeTest::refusedFit);
    }

    private static Sentences beginsAnew() {
        return new Sentences("Promise 2 (Terms, a device)")
                .holds("All but the reading and off begin anew (0, false) when a device is fitted.", "base",
                        DeviceEdgeTest::baseAnew)
                .holds("All but the reading and off begin anew (0, false) when a device is fitted.", "level",
                        DeviceEdgeTest::levelAnew)
                .holds("All but the reading and off begin anew (0, false) when a device is fitted.", "over",
                        DeviceEdgeTest::overAnew)
                .holds("All but the reading and off begin anew (0, false) when a device is fitted.", "alarm",
                        DeviceEdgeTest::alarmAnew)
                .holds("All but the reading and off begin anew (0, false) when a device is fitted.", "missed",
                        DeviceEdgeTest::missedAnew)
                .holds("All but the reading and off begin anew (0, false) when a device is fitted.", "fault",
                        DeviceEdgeTest::faultAnew)
                .holds("All but the reading and off begin anew (0, false) when a device is fitted.",
                        "the reading stays", DeviceEdgeTest::readingStays)
                .holds("All but the reading and off begin anew (0, false) when a device is fitted.", "off stays",
                        DeviceEdgeTest::offStays);
    }

    private static Sentences reading() {
        return new Sentences("Promise 5")
                .holds("its READING (0f at first)", "each place", DeviceEdgeTest::readingAtFirst)
                .holds("The reading at a place becomes v.", "the first and the last place, at level 0",
                        DeviceEdgeTest::readingBecomes)
                .holds("The reading at a place becomes v.", "not before a poll is it told",
                        DeviceEdgeTest::readingWaits)
                .holds("v is not -100f .. 200f", "the least and the most", DeviceEdgeTest::leastAndMostReading)
                .holds("v is not -100f .. 200f", "too small", DeviceEdgeTest::readingTooSmall)
                .holds("v is not -100f .. 200f", "too large", DeviceEdgeTest::readingTooLarge)
                .holds("v is not -100f .. 200f", "no number", DeviceEdgeTest::readingNoNumber)
                .holds("NoSuchElementException", "places below 0 and above 15", DeviceEdgeTest::readingNoSuchPlace)
                .holds("a call ends by the first that holds", "no such place and a wrong v",
                        DeviceEdgeTest::readingPlaceFirst)
                .holds("Such a call changes nothing", "the old reading stays", DeviceEdgeTest::refusedReading);
    }

    private static Sentences level() {
        return new Sentences("Promise 14")
                .holds("a BASE and a LEVEL (floats, 0f)", "the level of each place", DeviceEdgeTest::levelAtFirst)
                .holds("The level of a place.", "the first and the last place", DeviceEdgeTest::levelOfEnds)
                .holds("NoSuchElementException", "places below 0 and above 15", DeviceEdgeTest::levelNoSuchPlace);
    }

    private static Sentences base() {
        return new Sentences("Promise 15")
                .holds("a BASE and a LEVEL (floats, 0f)", "the base of each place", DeviceEdgeTest::baseAtFirst)
                .holds("The base of a place.", "the first and the last place", DeviceEdgeTest::baseOfEnds)
                .holds("NoSuchElementException", "places below 0 and above 15", DeviceEdgeTest::baseNoSuchPlace);
    }

    private static Real with(int kind, float threshold, float reading) {
        Real panel = Panels.atLevel2();
        panel.fit(5, kind, 1, threshold);
        panel.reading(5, reading);
        return panel;
    }

    private static void firstAndLast(Due due) {
        Real panel = Panels.atLevel2();
        panel.fit(0, Panels.SMOKE, 0, 1f);
        panel.fit(15, Panels.HEAT, 3, 1f);
        due.is("place(0)", panel.place(0), 17);
        due.is("place(15)", panel.place(15), 33);
    }

    private static void thereAlone(Due due) {
        for (int fitted = 0; fitted < 16; fitted++) {
            Real panel = Panels.atLevel2();
            panel.fit(fitted, Panels.BUTTON, 0, 1f);
            for (int i = 0; i < 16; i++) {
                due.is("place(" + i + ") with a button at " + fitted, panel.place(i), i == fitted ? 49 : 1);
            }
        }
    }

    private static void instead(Due due) {
        Real panel = with(Panels.BUTTON, 1f, 1f);
        panel.fit(5, Panels.SMOKE, 2, 100f);
        due.is("place(5)", panel.place(5), 17);
        due.is("poll() without the button", panel.poll(), 0);
        panel.fit(5, Panels.NOTHING, 2, 100f);
        due.is("place(5) with nothing", panel.place(5), 1);
    }

    private static void fitIsNotLogged(Due due) {
        Real panel = with(Panels.SMOKE, 1f, 0f);
        panel.wire(0, 2);
        Panels.poll(panel, 2);
        int before = Panels.entries(panel);
        panel.fit(5, Panels.SMOKE, 1, 1f);
        due.is("entries", Panels.entries(panel), before);
        panel.wire(0, 0);
        panel.poll();
        due.is("entries when the new one answers", Panels.entries(panel), before);
    }

    private static void eachZone(Due due) {
        for (int zone = 0; zone < 4; zone++) {
            Real panel = Panels.atLevel2();
            Panels.press(panel, 9, zone);
            panel.poll();
            for (int i = 0; i < 4; i++) {
                due.is("zone(" + i + ") with a button in " + zone, panel.zone(i), i == zone ? 3 : 0);
            }
        }
    }

    private static void thresholdOfItsOwn(Due due) {
        Real panel = Panels.atLevel2();
        float[] thresholds = {50f, Math.nextUp(50f), 0.5f, 99.5f};
        for (int i = 0; i < 4; i++) {
            panel.fit(i, Panels.HEAT, i, thresholds[i]);
            panel.reading(i, 200f);
        }
        Panels.poll(panel, 2);
        due.is("poll()", panel.poll(), 2);
        due.is("zones", panel.zone(0) + " " + panel.zone(1) + " " + panel.zone(2) + " " + panel.zone(3), "3 0 3 0");
    }

    private static void leastAndMostThreshold(Due due) {
        for (int kind = 0; kind <= 4; kind++) {
            Real panel = with(kind, 0.5f, 0f);
            due.is("kind " + kind + " with 0.5f", panel.place(5), 16 * kind + 1);
            panel = with(kind, 100f, 0f);
            due.is("kind " + kind + " with 100f", panel.place(5), 16 * kind + 1);
        }
        Real panel = with(Panels.SMOKE, 0.5f, 1f);
        panel.poll();
        due.is("base(5), at 0.5f", panel.base(5), 0f);
        panel = with(Panels.SMOKE, 100f, 200f);
        panel.poll();
        due.is("base(5), at 100f", panel.base(5), 0f);
    }

    private static void fitNoSuchPlace(Due due) {
        Real panel = Panels.atLevel2();
        for (int place : NO_PLACES) {
            due.refused("fit(" + place + ", 1, 0, 1f)", panel, Sentences.NO_SUCH, () -> panel.fit(place, 1, 0, 1f));
        }
    }

    private static void fitNoSuchZone(Due due) {
        Real panel = Panels.atLevel2();
        for (int zone : NO_ZONES) {
            for (int kind = 0; kind <= 4; kind++) {
                int fitted = kind;
                due.refused("fit(0, " + kind + ", " + zone + ", 1f)", panel, Sentences.NO_SUCH,
                        () -> panel.fit(0, fitted, zone, 1f));
            }
        }
    }

    private static void fitWrongKind(Due due) {
        Real panel = Panels.atLevel2();
        for (int kind : new int[] {-1, 5, Integer.MIN_VALUE, Integer.MAX_VALUE}) {
            due.refused("fit(0, " + kind + ", 0, 1f)", panel, Sentences.ARGUMENT, () -> panel.fit(0, kind, 0, 1f));
        }
    }

    private static void dueWrongThreshold(Due due, float threshold) {
        Real panel = Panels.atLevel2();
        for (int kind = 0; kind <= 4; kind++) {
            int fitted = kind;
            due.refused("fit(15, " + kind + ", 3, " + threshold + "f)", panel, Sentences.ARGUMENT,
                    () -> panel.fit(15, fitted, 3, threshold));
        }
    }

    private static void fitThresholdTooSmall(Due due) {
        for (float threshold : new float[] {Math.nextDown(0.5f), 0f, -0f, -0.5f, -1f, -Float.MAX_VALUE}) {
            dueWrongThreshold(due, threshold);
        }
    }

    private static void fitThresholdTooLarge(Due due) {
        for (float threshold : new float[] {Math.nextUp(100f), 101f, 320f, Float.MAX_VALUE}) {
            dueWrongThreshold(due, threshold);
        }
    }

    private static void fitThresholdNoNumber(Due due) {
        for (float threshold : NO_NUMBERS) {
            dueWrongThreshold(due, threshold);
        }
    }

    private static void fitBelowLevelTwo(Due due) {
        Real panel = new Real();
        due.refused("fit at level 0", panel, Sentences.STATE, () -> panel.fit(0, 1, 0, 1f));
        panel.key(1357);
        due.refused("fit at level 1", panel, Sentences.STATE, () -> panel.fit(0, 1, 0, 1f));
        panel.key(2468);
        panel.fit(0, 1, 0, 1f);
        due.is("place(0) at level 2", panel.place(0), 17);
        panel.key(1357);
        due.refused("fit at level 1 again", panel, Sentences.STATE, () -> panel.fit(0, 0, 0, 1f));
    }

    private static void fitNoSuchFirst(Due due) {
        Real panel = Panels.atLevel2();
        due.refused("fit(16, 5, 0, 1f)", panel, Sentences.NO_SUCH, () -> panel.fit(16, 5, 0, 1f));
        due.refused("fit(16, 1, 0, 0f)", panel, Sentences.NO_SUCH, () -> panel.fit(16, 1, 0, 0f));
        due.refused("fit(0, 5, 4, 1f)", panel, Sentences.NO_SUCH, () -> panel.fit(0, 5, 4, 1f));
        due.refused("fit(0, 1, 4, 0f)", panel, Sentences.NO_SUCH, () -> panel.fit(0, 1, 4, 0f));
    }

    private static void fitLevelLast(Due due) {
        Real panel = new Real();
        due.refused("fit(16, 1, 0, 1f)", panel, Sentences.NO_SUCH, () -> panel.fit(16, 1, 0, 1f));
        due.refused("fit(0, 1, 4, 1f)", panel, Sentences.NO_SUCH, () -> panel.fit(0, 1, 4, 1f));
        due.refused("fit(0, 5, 0, 1f)", panel, Sentences.ARGUMENT, () -> panel.fit(0, 5, 0, 1f));
        due.refused("fit(0, 1, 0, 0f)", panel, Sentences.ARGUMENT, () -> panel.fit(0, 1, 0, 0f));
    }

    /** Three ways to be refused at place 5; a device that counts goes on counting behind them. */
    private static void refuseFits(Due due, Real panel) {
        due.refused("fit(5, 3, 4, 1f)", panel, Sentences.NO_SUCH, () -> panel.fit(5, 3, 4, 1f));
        due.refused("fit(5, 5, 2, 1f)", panel, Sentences.ARGUMENT, () -> panel.fit(5, 5, 2, 1f));
        due.refused("fit(5, 3, 2, 0f)", panel, Sentences.ARGUMENT, () -> panel.fit(5, 3, 2, 0f));
        panel.key(0);
        due.refused("fit at level 0", panel, Sentences.STATE, () -> panel.fit(5, 3, 2, 1f));
        panel.key(2468);
    }

    private static void refusedFit(Due due) {
        Real panel = with(Panels.HEAT, 50f, 200f);
        Panels.poll(panel, 2);
        refuseFits(due, panel);
        due.is("poll(), over for the third time", panel.poll(), 1);
        due.is("zone(1), its old zone", panel.zone(1), 3);
        panel.wire(0, 2);
        panel.poll();
        refuseFits(due, panel);
        panel.poll();
        due.is("place(5), missed for the second time", panel.place(5), 32 + 4 + 2);
        refuseFits(due, panel);
    }

    private static void baseAnew(Due due) {
        Real panel = with(Panels.HEAT, 100f, 8f);
        panel.poll();
        due.is("base(5) before", panel.base(5), 8f);
        panel.fit(5, Panels.HEAT, 1, 100f);
        due.is("base(5)", panel.base(5), 0f);
    }

    private static void levelAnew(Due due) {
        Real panel = with(Panels.SMOKE, 100f, 8f);
        panel.poll();
        due.is("level(5) before", panel.level(5), 4f);
        panel.fit(5, Panels.SMOKE, 1, 100f);
        due.is("level(5)", panel.level(5), 0f);
    }

    private static void overAnew(Due due) {
        Real panel = with(Panels.SMOKE, 1f, 100f);
        Panels.poll(panel, 2);
        panel.fit(5, Panels.SMOKE, 1, 1f);
        due.is("poll() 1", panel.poll(), 0);
        due.is("poll() 2", panel.poll(), 0);
        due.is("poll() 3", panel.poll(), 1);
    }

    private static void alarmAnew(Due due) {
        Real panel = with(Panels.BUTTON, 1f, 1f);
        panel.poll();
        due.is("place(5) before", panel.place(5), 51);
        panel.fit(5, Panels.BUTTON, 1, 1f);
        due.is("place(5)", panel.place(5), 49);
        due.is("zone(1), in fire without a warning", panel.zone(1), 1);
    }

    private static void missedAnew(Due due) {
        Real panel = with(Panels.SMOKE, 1f, 0f);
        panel.wire(0, 2);
        panel.poll();
        panel.fit(5, Panels.SMOKE, 1, 1f);
        panel.poll();
        due.is("place(5), missed once", panel.place(5), 16);
        panel.poll();
        due.is("place(5), missed twice", panel.place(5), 20);
    }

    private static void faultAnew(Due due) {
        Real panel = with(Panels.SMOKE, 1f, 0f);
        panel.wire(0, 2);
        Panels.poll(panel, 2);
        due.is("place(5) before", panel.place(5), 20);
        panel.fit(5, Panels.SMOKE, 1, 1f);
        due.is("place(5)", panel.place(5), 16);
        due.is("count(5)", panel.count(5), 0);
    }

    private static void readingStays(Due due) {
        Real panel = with(Panels.BUTTON, 1f, 7f);
        panel.fit(5, Panels.BUTTON, 1, 1f);
        panel.poll();
        due.is("level(5)", panel.level(5), 7f);
        panel.reading(6, -3f);
        panel.fit(6, Panels.BUTTON, 1, 1f);
        panel.poll();
        due.is("level(6), read before there was a device", panel.level(6), -3f);
    }

    private static void offStays(Due due) {
        Real panel = with(Panels.BUTTON, 1f, 7f);
        panel.off(false, 5, true);
        panel.fit(5, Panels.BUTTON, 1, 1f);
        due.is("place(5)", panel.place(5), 48 + 8 + 1);
        due.is("poll()", panel.poll(), 0);
    }

    private static void readingAtFirst(Due due) {
        Real panel = Panels.atLevel2();
        for (int i = 0; i < 16; i++) {
            panel.fit(i, Panels.HEAT, 0, 1f);
        }
        panel.poll();
        for (int i = 0; i < 16; i++) {
            due.is("level(" + i + ")", panel.level(i), 0f);
        }
    }

    private static void readingBecomes(Due due) {
        Real panel = Panels.atLevel2();
        panel.fit(0, Panels.BUTTON, 0, 1f);
        panel.fit(1, Panels.BUTTON, 0, 1f);
        panel.fit(15, Panels.BUTTON, 0, 1f);
        panel.key(0);
        panel.reading(0, 3f);
        panel.reading(15, 4f);
        panel.reading(15, 5f);
        panel.poll();
        due.is("levels", panel.level(0) + " " + panel.level(1) + " " + panel.level(15), "3.0 0.0 5.0");
    }

    private static void readingWaits(Due due) {
        Real panel = with(Panels.HEAT, 1f, 9f);
        due.is("level(5)", panel.level(5), 0f);
        due.is("base(5)", panel.base(5), 0f);
        due.is("entries", Panels.entries(panel), 0);
    }

    private static void leastAndMostReading(Due due) {
        for (float v : new float[] {-100f, Math.nextUp(-100f), Math.nextDown(200f), 200f}) {
            Real panel = with(Panels.BUTTON, 1f, v);
            panel.poll();
            due.is("level(5)", panel.level(5), v);
        }
    }

    private static void dueWrongReading(Due due, float v) {
        Real panel = Panels.atLevel2();
        due.refused("reading(0, " + v + "f)", panel, Sentences.ARGUMENT, () -> panel.reading(0, v));
        due.refused("reading(15, " + v + "f)", panel, Sentences.ARGUMENT, () -> panel.reading(15, v));
    }

    private static void readingTooSmall(Due due) {
        for (float v : new float[] {Math.nextDown(-100f), -101f, -200f, -Float.MAX_VALUE}) {
            dueWrongReading(due, v);
        }
    }

    private static void readingTooLarge(Due due) {
        for (float v : new float[] {Math.nextUp(200f), 201f, Float.MAX_VALUE}) {
            dueWrongReading(due, v);
        }
    }

    private static void readingNoNumber(Due due) {
        for (float v : NO_NUMBERS) {
            dueWrongReading(due, v);
        }
    }

    private static void readingNoSuchPlace(Due due) {
        Real panel = Panels.atLevel2();
        for (int place : NO_PLACES) {
            due.refused("reading(" + place + ", 1f)", panel, Sentences.NO_SUCH, () -> panel.reading(place, 1f));
        }
    }

    private static void readingPlaceFirst(Due due) {
        Real panel = Panels.atLevel2();
        due.refused("reading(16, 201f)", panel, Sentences.NO_SUCH, () -> panel.reading(16, 201f));
        due.refused("reading(-1, NaN)", panel, Sentences.NO_SUCH, () -> panel.reading(-1, Float.NaN));
    }

    private static void refusedReading(Due due) {
        Real panel = with(Panels.BUTTON, 1f, 7f);
        due.refused("reading(5, 201f)", panel, Sentences.ARGUMENT, () -> panel.reading(5, 201f));
        due.refused("reading(5, -101f)", panel, Sentences.ARGUMENT, () -> panel.reading(5, -101f));
        due.refused("reading(5, NaN)", panel, Sentences.ARGUMENT, () -> panel.reading(5, Float.NaN));
        panel.poll();
        due.is("level(5)", panel.level(5), 7f);
    }

    private static void levelAtFirst(Due due) {
        for (int i = 0; i < 16; i++) {
            due.is("level(" + i + ")", new Real().level(i), 0f);
        }
    }

    private static void baseAtFirst(Due due) {
        for (int i = 0; i < 16; i++) {
            due.is("base(" + i + ")", new Real().base(i), 0f);
        }
    }

    /** Heats at both ends of the ring, polled once. */
    private static Real heatAtEnds() {
        Real panel = Panels.atLevel2();
        panel.fit(0, Panels.HEAT, 0, 100f);
        panel.fit(15, Panels.HEAT, 0, 100f);
        panel.reading(0, 4f);
        panel.reading(15, 8f);
        panel.poll();
        panel.key(0);
        return panel;
    }

    private static void levelOfEnds(Due due) {
        due.is("level(0)", heatAtEnds().level(0), 17f);
        due.is("level(15)", heatAtEnds().level(15), 34f);
        due.is("level(1)", heatAtEnds().level(1), 0f);
    }

    private static void baseOfEnds(Due due) {
        due.is("base(0)", heatAtEnds().base(0), 4f);
        due.is("base(15)", heatAtEnds().base(15), 8f);
        due.is("base(14)", heatAtEnds().base(14), 0f);
    }

    private static void levelNoSuchPlace(Due due) {
        Real panel = heatAtEnds();
        for (int place : NO_PLACES) {
            due.refused("level(" + place + ")", panel, Sentences.NO_SUCH, () -> panel.level(place));
        }
    }

    private static void baseNoSuchPlace(Due due) {
        Real panel = heatAtEnds();
        for (int place : NO_PLACES) {
            due.refused("base(" + place + ")", panel, Sentences.NO_SUCH, () -> panel.base(place));
        }
    }
}
