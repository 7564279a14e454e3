/** Terms of a poll, its part (1), promise 9: each sentence with its edges. */
public final class PollEdgeTest {
    public static void main(String[] args) {
        Sentences.end(counted(), missed(), sensed(), smoke(), heat(), button(), alarm());
    }

    private static Sentences counted() {
        return new Sentences("Promise 9")
                .holds("POLLS are counted, from 0 on.", "none, one, many", PollEdgeTest::pollsAreCounted)
                .holds("A POLL, after the count is one more", "the entries bear the new count",
                        PollEdgeTest::countedBefore)
                .holds("at most 512 calls", "all of them polls", PollEdgeTest::fiveHundredPolls)
                .holds("A poll: how many zones came to be in fire by it.", "at level 0, with nothing fitted",
                        PollEdgeTest::pollOfNothing);
    }

    private static Sentences missed() {
        return new Sentences("Promise 9 (1)")
                .holds("each place with a device of kinds 1 to 3", "kinds 0 and 4 are not missed",
                        PollEdgeTest::kindsThatAreNotAsked)
                .holds("each place with a device of kinds 1 to 3", "the first and the last place",
                        PollEdgeTest::firstAndLastPlace)
                .holds("from 0 on", "the order of faults, and of their ends", PollEdgeTest::faultsInOrder)
                .holds("Not reached: MISSED becomes one more", "each kind", PollEdgeTest::missedByEachKind)
                .holds("if it is 2 then, it is at fault (logged 2)", "once is not enough", PollEdgeTest::missedOnce)
                .holds("if it is 2 then, it is at fault (logged 2)", "twice", PollEdgeTest::missedTwice)
                .holds("if it is 2 then, it is at fault (logged 2)", "many times, logged once",
                        PollEdgeTest::missedManyTimes)
                .holds("Reached: MISSED becomes 0", "between two misses", PollEdgeTest::reachedBetween)
                .holds("if it was at fault, it is so no more (logged 3)", "by the poll, not by the wire",
                        PollEdgeTest::faultEnds)
                .holds("if it was at fault, it is so no more (logged 3)", "missed once is no fault",
                        PollEdgeTest::noFaultNoEnd)
                .holds("if it was at fault, it is so no more (logged 3)", "and anew", PollEdgeTest::faultAnew);
    }

    private static Sentences sensed() {
        return new Sentences("Promise 9 (1)")
                .holds("If it is reached and not off", "not reached: nothing is sensed", PollEdgeTest::unreached)
                .holds("If it is reached and not off", "off: nothing is sensed", PollEdgeTest::offIsNotSensed)
                .holds("If it is reached and not off", "off, but missed and found again",
                        PollEdgeTest::offIsStillAsked)
                .holds("If it is reached and not off", "over waits meanwhile", PollEdgeTest::overWaits)
                .holds("If it is reached and not off", "a zone that is off does not matter",
                        PollEdgeTest::offZoneIsSensed)
                .holds("each place with a device of kinds 1 to 3", "kinds 0 and 4 are not sensed",
                        PollEdgeTest::kindsThatSenseNothing);
    }

    private static Sentences smoke() {
        return new Sentences("Promise 9 (1), smoke")
                .holds("d = reading - base; level becomes level + (d - level) * 0.5f", "up and down",
                        PollEdgeTest::smokeLevel)
                .holds("OVER becomes one more, if level is not below the threshold", "just at it",
                        PollEdgeTest::smokeAtThreshold)
                .holds("OVER becomes one more, if level is not below the threshold", "just below it",
                        PollEdgeTest::smokeBelowThreshold)
                .holds("else 0", "twice over, once below, twice over", PollEdgeTest::smokeOverAnew)
                .holds("with OVER 0, base becomes base + d * 0.0625f", "with the d from before, up and down",
                        PollEdgeTest::smokeBase)
                .holds("with OVER 0, base becomes base + d * 0.0625f", "with OVER 1 it stays",
                        PollEdgeTest::smokeBaseStays);
    }

    private static Sentences heat() {
        return new Sentences("Promise 9 (1), heat")
                .holds("level becomes (reading - base) * 4f + reading * 0.25f", "the least and the most",
                        PollEdgeTest::heatLevel)
                .holds("and base the reading", "over or not", PollEdgeTest::heatBase)
                .holds("OVER as above", "just at the threshold", PollEdgeTest::heatAtThreshold)
                .holds("OVER as above", "just below the threshold", PollEdgeTest::heatBelowThreshold)
                .holds("OVER as above", "twice over, once below, twice over", PollEdgeTest::heatOverAnew);
    }

    private static Sentences button() {
        return new Sentences("Promise 9 (1), button")
                .holds("OVER becomes 3 if the reading is above 0f", "just above", PollEdgeTest::buttonAboveZero)
                .holds("OVER becomes 3 if the reading is above 0f", "at 0f and below", PollEdgeTest::buttonAtZero)
                .holds("OVER becomes 3 if the reading is above 0f", "whatever its threshold",
                        PollEdgeTest::buttonThreshold)
                .holds("else it stays; level is the reading", "pressed and released", PollEdgeTest::buttonReleased);
    }

    private static Sentences alarm() {
        return new Sentences("Promise 9 (1), alarm")
                .holds("With OVER 3 or more it is in alarm (until reset()).", "2 is not enough", PollEdgeTest::overTwo)
                .holds("With OVER 3 or more it is in alarm (until reset()).", "3 and more", PollEdgeTest::overThree)
                .holds("With OVER 3 or more it is in alarm (until reset()).", "it stays below the threshold",
                        PollEdgeTest::alarmStays)
                .holds("With OVER 3 or more it is in alarm (until reset()).", "it stays unreached and off",
                        PollEdgeTest::alarmStaysUnasked)
                .holds("With OVER 3 or more it is in alarm (until reset()).", "reset ends it",
                        PollEdgeTest::alarmEnds);
    }

    private static Real with(int kind, float threshold) {
        Real panel = Panels.atLevel2();
        panel.fit(6, kind, 2, threshold);
        return panel;
    }

    private static void read(Real panel, float... readings) {
        for (float v : readings) {
            panel.reading(6, v);
            panel.poll();
        }
    }

    private static void cut(Real panel) {
        panel.wire(0, 2);
    }

    private static void mend(Real panel) {
        panel.wire(0, 0);
    }

    private static void pollsAreCounted(Due due) {
        Real panel = new Real();
        for (int i = 0; i < 20; i++) {
            due.is("count(0)", panel.count(0), i);
            panel.poll();
        }
    }

    private static void countedBefore(Due due) {
        Real panel = Panels.atLevel2();
        Panels.press(panel, 6, 2);
        Panels.rule(panel, "z2>4");
        panel.poll();
        due.is("the output's entry", Panels.entry(panel, 0), "4 4 1");
        due.is("the fire's entry", Panels.entry(panel, 1), "1 2 1");
        cut(panel);
        Panels.poll(panel, 2);
        due.is("the fault's entry", Panels.entry(panel, 0), "2 6 3");
        mend(panel);
        panel.poll();
        due.is("the entry of its end", Panels.entry(panel, 0), "3 6 4");
    }

    private static void fiveHundredPolls(Due due) {
        Real panel = with(Panels.HEAT, 50f);
        panel.fit(7, Panels.SMOKE, 1, 1f);
        panel.reading(7, 200f);
        Panels.rule(panel, "!z3>5:9");
        panel.reading(6, 200f);
        Panels.poll(panel, 490);
        due.is("count(0)", panel.count(0), 490);
        due.is("held(0)", panel.held(0), 490);
        due.is("place(6)", panel.place(6), 32 + 2 + 1);
        due.is("level(7)", panel.level(7), 200f);
        due.is("silence()", panel.silence(), true);
        due.is("log(0, 2)", panel.log(0, 2), 490);
        due.is("log(1, 2)", panel.log(1, 2), 10);
    }

    private static void pollOfNothing(Due due) {
        Real panel = new Real();
        due.is("poll()", panel.poll(), 0);
        due.is("entries", Panels.entries(panel), 0);
    }

    private static void kindsThatAreNotAsked(Due due) {
        for (int kind : new int[] {Panels.NOTHING, Panels.ISOLATOR}) {
            Real panel = with(kind, 1f);
            panel.wire(0, 2);
            panel.wire(16, 2);
            Panels.poll(panel, 4);
            due.is("place(6) of kind " + kind, panel.place(6), 16 * kind);
            due.is("count(5)", panel.count(5), 0);
            due.is("entries", Panels.entries(panel), 0);
        }
    }

    private static void firstAndLastPlace(Due due) {
        for (int place : new int[] {0, 15}) {
            Real panel = Panels.atLevel2();
            panel.fit(place, Panels.BUTTON, 1, 1f);
            cut(panel);
            Panels.poll(panel, 2);
            due.is("place(" + place + ")", panel.place(place), 48 + 4);
            due.is("its entry", Panels.entry(panel, 0), "2 " + place + " 2");
            mend(panel);
            panel.reading(place, 1f);
            due.is("poll()", panel.poll(), 1);
        }
    }

    private static void faultsInOrder(Due due) {
        Real panel = Panels.atLevel2();
        int[] places = {15, 0, 9, 4};
        for (int place : places) {
            panel.fit(place, Panels.SMOKE, place / 4, 1f);
        }
        cut(panel);
        Panels.poll(panel, 2);
        mend(panel);
        panel.poll();
        String[] want = {"3 15 3", "3 9 3", "3 4 3", "3 0 3", "2 15 2", "2 9 2", "2 4 2", "2 0 2"};
        for (int i = 0; i < want.length; i++) {
            due.is("entry " + i, Panels.entry(panel, i), want[i]);
        }
    }

    private static void missedByEachKind(Due due) {
        for (int kind : new int[] {Panels.SMOKE, Panels.HEAT, Panels.BUTTON}) {
            Real panel = with(kind, 1f);
            cut(panel);
            Panels.poll(panel, 2);
            due.is("place(6) of kind " + kind, panel.place(6), 16 * kind + 4);
        }
    }

    private static void missedOnce(Due due) {
        Real panel = with(Panels.SMOKE, 1f);
        cut(panel);
        panel.poll();
        due.is("place(6)", panel.place(6), 16);
        due.is("entries", Panels.entries(panel), 0);
        due.is("count(5)", panel.count(5), 0);
    }

    private static void missedTwice(Due due) {
        Real panel = with(Panels.SMOKE, 1f);
        cut(panel);
        Panels.poll(panel, 2);
        due.is("place(6)", panel.place(6), 20);
        due.is("the entry", Panels.entry(panel, 0), "2 6 2");
        due.is("entries", Panels.entries(panel), 1);
        due.is("count(5)", panel.count(5), 1);
    }

    private static void missedManyTimes(Due due) {
        Real panel = with(Panels.SMOKE, 1f);
        cut(panel);
        Panels.poll(panel, 300);
        due.is("place(6)", panel.place(6), 20);
        due.is("entries", Panels.entries(panel), 1);
        due.is("the entry", Panels.entry(panel, 0), "2 6 2");
    }

    private static void reachedBetween(Due due) {
        Real panel = with(Panels.SMOKE, 1f);
        for (int i = 0; i < 3; i++) {
            cut(panel);
            panel.poll();
            mend(panel);
            panel.poll();
        }
        due.is("entries", Panels.entries(panel), 0);
        cut(panel);
        Panels.poll(panel, 2);
        mend(panel);
        panel.poll();
        cut(panel);
        panel.poll();
        due.is("place(6), missed once behind a fault", panel.place(6), 16);
    }

    private static void faultEnds(Due due) {
        Real panel = with(Panels.SMOKE, 1f);
        cut(panel);
        Panels.poll(panel, 2);
        mend(panel);
        due.is("place(6) before the poll", panel.place(6), 21);
        due.is("count(5) before the poll", panel.count(5), 1);
        panel.poll();
        due.is("place(6)", panel.place(6), 17);
        due.is("count(5)", panel.count(5), 0);
        due.is("the entry", Panels.entry(panel, 0), "3 6 3");
        panel.poll();
        due.is("entries", Panels.entries(panel), 2);
    }

    private static void noFaultNoEnd(Due due) {
        Real panel = with(Panels.SMOKE, 1f);
        cut(panel);
        panel.poll();
        mend(panel);
        panel.poll();
        due.is("entries", Panels.entries(panel), 0);
    }

    private static void faultAnew(Due due) {
        Real panel = with(Panels.SMOKE, 1f);
        for (int i = 0; i < 2; i++) {
            cut(panel);
            Panels.poll(panel, 2);
            mend(panel);
            panel.poll();
        }
        due.is("entries", Panels.entries(panel), 4);
        due.is("the second fault", Panels.entry(panel, 1), "2 6 5");
        due.is("its end", Panels.entry(panel, 0), "3 6 6");
    }

    private static void unreached(Due due) {
        for (int kind : new int[] {Panels.SMOKE, Panels.HEAT, Panels.BUTTON}) {
            Real panel = with(kind, 1f);
            panel.reading(6, 100f);
            cut(panel);
            Panels.poll(panel, 5);
            due.is("level(6) of kind " + kind, panel.level(6), 0f);
            due.is("base(6) of kind " + kind, panel.base(6), 0f);
            due.is("place(6) of kind " + kind, panel.place(6), 16 * kind + 4);
        }
    }

    private static void offIsNotSensed(Due due) {
        for (int kind : new int[] {Panels.SMOKE, Panels.HEAT, Panels.BUTTON}) {
            Real panel = with(kind, 1f);
            panel.reading(6, 100f);
            panel.off(false, 6, true);
            Panels.poll(panel, 5);
            due.is("level(6) of kind " + kind, panel.level(6), 0f);
            due.is("base(6) of kind " + kind, panel.base(6), 0f);
            due.is("place(6) of kind " + kind, panel.place(6), 16 * kind + 8 + 1);
        }
    }

    private static void offIsStillAsked(Due due) {
        Real panel = with(Panels.SMOKE, 1f);
        panel.off(false, 6, true);
        cut(panel);
        Panels.poll(panel, 2);
        due.is("the fault's entry", Panels.entry(panel, 0), "2 6 2");
        mend(panel);
        panel.poll();
        due.is("the entry of its end", Panels.entry(panel, 0), "3 6 3");
    }

    private static void overWaits(Due due) {
        Real panel = with(Panels.SMOKE, 1f);
        read(panel, 100f, 100f);
        cut(panel);
        panel.poll();
        mend(panel);
        due.is("poll() behind a miss", panel.poll(), 1);
        panel = with(Panels.SMOKE, 1f);
        read(panel, 100f, 100f);
        panel.off(false, 6, true);
        panel.poll();
        panel.off(false, 6, false);
        due.is("poll() behind one while off", panel.poll(), 1);
    }

    private static void offZoneIsSensed(Due due) {
        Real panel = with(Panels.SMOKE, 100f);
        panel.off(true, 2, true);
        read(panel, 8f);
        due.is("level(6)", panel.level(6), 4f);
    }

    private static void kindsThatSenseNothing(Due due) {
        for (int kind : new int[] {Panels.NOTHING, Panels.ISOLATOR}) {
            Real panel = with(kind, 0.5f);
            read(panel, 200f, 200f, 200f, 200f);
            due.is("level(6) of kind " + kind, panel.level(6), 0f);
            due.is("base(6) of kind " + kind, panel.base(6), 0f);
            due.is("place(6) of kind " + kind, panel.place(6), 16 * kind + 1);
            due.is("zone(2)", panel.zone(2), 0);
        }
    }

    private static void smokeLevel(Due due) {
        Real panel = with(Panels.SMOKE, 100f);
        read(panel, 16f);
        due.is("level(6) of 16", panel.level(6), 8f);
        read(panel, 16f);
        due.is("level(6) of 16 - 1", panel.level(6), 11.5f);
        read(panel, -100f);
        due.is("level(6) of -100 - 1.9375", panel.level(6), 11.5f + (-101.9375f - 11.5f) * 0.5f);
        panel = with(Panels.SMOKE, 0.5f);
        read(panel, 200f);
        due.is("level(6) of the most", panel.level(6), 100f);
        panel = with(Panels.SMOKE, 0.5f);
        read(panel, -100f);
        due.is("level(6) of the least", panel.level(6), -50f);
    }

    private static void smokeAtThreshold(Due due) {
        Real panel = with(Panels.SMOKE, 10f);
        read(panel, 20f);
        due.is("level(6)", panel.level(6), 10f);
        due.is("base(6), as OVER is 1", panel.base(6), 0f);
        read(panel, 10f, 10f);
        due.is("level(6) of poll 3", panel.level(6), 10f);
        due.is("place(6), over three times", panel.place(6), 19);
    }

    private static void smokeBelowThreshold(Due due) {
        Real panel = with(Panels.SMOKE, Math.nextUp(10f));
        read(panel, 20f);
        due.is("level(6)", panel.level(6), 10f);
        due.is("base(6), as OVER is 0", panel.base(6), 1.25f);
        panel = with(Panels.SMOKE, 10f);
        read(panel, 20f, 10f, Math.nextDown(Math.nextDown(10f)));
        due.is("level(6) of poll 3", panel.level(6), Math.nextDown(10f));
        due.is("place(6), just below the third time", panel.place(6), 17);
    }

    private static void smokeOverAnew(Due due) {
        Real panel = with(Panels.SMOKE, 10f);
        read(panel, 100f, 100f, -100f, 200f, 200f);
        due.is("place(6)", panel.place(6), 17);
        read(panel, 200f);
        due.is("place(6), the third time", panel.place(6), 19);
    }

    private static void smokeBase(Due due) {
        Real panel = with(Panels.SMOKE, 100f);
        read(panel, 16f);
        due.is("base(6) of 16", panel.base(6), 1f);
        read(panel, 17f);
        due.is("base(6) of 16 more", panel.base(6), 2f);
        read(panel, -30f);
        due.is("base(6) of 32 less", panel.base(6), 0f);
        read(panel, -100f);
        due.is("base(6) of 100 less", panel.base(6), -6.25f);
    }

    private static void smokeBaseStays(Due due) {
        Real panel = with(Panels.SMOKE, 10f);
        read(panel, 16f);
        due.is("base(6), OVER 0", panel.base(6), 1f);
        read(panel, 100f);
        due.is("base(6), OVER 1", panel.base(6), 1f);
        read(panel, 100f, 100f, 100f);
        due.is("base(6), OVER 4, in alarm", panel.base(6), 1f);
        read(panel, -100f);
        due.is("base(6), OVER 0, in alarm", panel.base(6), 1f - 101f * 0.0625f);
    }

    private static void heatLevel(Due due) {
        Real panel = with(Panels.HEAT, 100f);
        read(panel, 20f);
        due.is("level(6) of 20", panel.level(6), 85f);
        read(panel, 20f);
        due.is("level(6) of 20 again", panel.level(6), 5f);
        read(panel, 200f);
        due.is("level(6) of the most", panel.level(6), 770f);
        read(panel, -100f);
        due.is("level(6) of the least", panel.level(6), -1225f);
    }

    private static void heatBase(Due due) {
        Real panel = with(Panels.HEAT, 50f);
        read(panel, 100f);
        due.is("base(6), over", panel.base(6), 100f);
        read(panel, -100f);
        due.is("base(6), not over", panel.base(6), -100f);
    }

    private static void heatAtThreshold(Due due) {
        Real panel = with(Panels.HEAT, 50f);
        read(panel, 200f, 200f);
        due.is("level(6)", panel.level(6), 50f);
        due.is("place(6), over twice", panel.place(6), 33);
        read(panel, 200f);
        due.is("place(6), over three times", panel.place(6), 35);
    }

    private static void heatBelowThreshold(Due due) {
        Real panel = with(Panels.HEAT, Math.nextUp(50f));
        read(panel, 200f, 200f, 200f, 200f);
        due.is("level(6)", panel.level(6), 50f);
        due.is("place(6)", panel.place(6), 33);
    }

    private static void heatOverAnew(Due due) {
        Real panel = with(Panels.HEAT, 50f);
        read(panel, 100f, 120f, 120f, 140f, 160f);
        due.is("place(6)", panel.place(6), 33);
        read(panel, 180f);
        due.is("place(6), the third time", panel.place(6), 35);
    }

    private static void buttonAboveZero(Due due) {
        Real panel = with(Panels.BUTTON, 1f);
        read(panel, Float.MIN_VALUE);
        due.is("place(6)", panel.place(6), 51);
        due.is("level(6)", panel.level(6), Float.MIN_VALUE);
    }

    private static void buttonAtZero(Due due) {
        Real panel = with(Panels.BUTTON, 1f);
        read(panel, 0f, 0f, 0f, 0f, -0f, -Float.MIN_VALUE, -100f);
        due.is("place(6)", panel.place(6), 49);
        due.is("level(6)", panel.level(6), -100f);
        due.is("base(6)", panel.base(6), 0f);
    }

    private static void buttonThreshold(Due due) {
        Real panel = with(Panels.BUTTON, 100f);
        read(panel, 1f);
        due.is("place(6), far below its threshold", panel.place(6), 51);
        due.is("base(6)", panel.base(6), 0f);
    }

    private static void buttonReleased(Due due) {
        Real panel = with(Panels.BUTTON, 1f);
        read(panel, 5f, 0f);
        due.is("place(6)", panel.place(6), 51);
        due.is("level(6)", panel.level(6), 0f);
        panel.reset();
        panel.poll();
        due.is("place(6) behind reset()", panel.place(6), 49);
    }

    private static void overTwo(Due due) {
        Real panel = with(Panels.SMOKE, 1f);
        read(panel, 100f, 100f);
        due.is("place(6) of a smoke", panel.place(6), 17);
        panel = with(Panels.HEAT, 50f);
        read(panel, 200f, 200f);
        due.is("place(6) of a heat", panel.place(6), 33);
    }

    private static void overThree(Due due) {
        Real panel = with(Panels.SMOKE, 1f);
        read(panel, 100f, 100f, 100f);
        due.is("place(6), OVER 3", panel.place(6), 19);
        read(panel, 100f);
        due.is("place(6), OVER 4", panel.place(6), 19);
    }

    private static void alarmStays(Due due) {
        Real panel = with(Panels.SMOKE, 1f);
        read(panel, 100f, 100f, 100f, -100f, -100f);
        due.is("place(6)", panel.place(6), 19);
    }

    private static void alarmStaysUnasked(Due due) {
        Real panel = with(Panels.SMOKE, 1f);
        read(panel, 100f, 100f, 100f);
        cut(panel);
        Panels.poll(panel, 3);
        due.is("place(6), not reached", panel.place(6), 16 + 4 + 2);
        mend(panel);
        panel.off(false, 6, true);
        panel.poll();
        due.is("place(6), off", panel.place(6), 16 + 8 + 2 + 1);
    }

    private static void alarmEnds(Due due) {
        Real panel = with(Panels.SMOKE, 1f);
        read(panel, 100f, 100f, 100f);
        panel.reset();
        due.is("place(6)", panel.place(6), 17);
        panel.poll();
        due.is("place(6), as OVER began anew", panel.place(6), 17);
        Panels.poll(panel, 2);
        due.is("place(6), over three times", panel.place(6), 19);
    }
}
