/** Terms of the zones, a poll's part (2), promises 3, 13 and 17: each sentence with its edges. */
public final class ZoneEdgeTest {
    private static final int[] NO_PLACES = {-1, 16, 32, Integer.MIN_VALUE, Integer.MAX_VALUE};
    private static final int[] NO_ZONES = {-1, 4, 8, Integer.MIN_VALUE, Integer.MAX_VALUE};

    public static void main(String[] args) {
        Sentences.end(need(), fire(), offOfFire(), off(), zone(), warning());
    }

    private static Sentences need() {
        return new Sentences("Promise 3")
                .holds("NEED 1 .. 4 devices (1 at first)", "each zone", ZoneEdgeTest::needAtFirst)
                .holds("A zone needs so many.", "1, 2, 3 and 4", ZoneEdgeTest::needOneToFour)
                .holds("A zone needs so many.", "that zone alone", ZoneEdgeTest::needOfOneZone)
                .holds("A zone needs so many.", "not before a poll, and not logged", ZoneEdgeTest::needWaits)
                .holds("many is not 1 .. 4", "too small and too large", ZoneEdgeTest::needWrongMany)
                .holds("NoSuchElementException", "zones below 0 and above 3", ZoneEdgeTest::needNoSuchZone)
                .holds("LEVEL 2", "levels 0 and 1", ZoneEdgeTest::needBelowLevelTwo)
                .holds("a call ends by the first that holds", "no such zone, wrong many, level",
                        ZoneEdgeTest::needInOrder)
                .holds("Such a call changes nothing", "the old need stays", ZoneEdgeTest::refusedNeed);
    }

    private static Sentences fire() {
        return new Sentences("Promise 9 (2)")
                .holds("as many of its devices (of kinds 1 to 3) that are not off are in alarm as it needs, or more",
                        "one too few", ZoneEdgeTest::oneTooFew)
                .holds("as many of its devices (of kinds 1 to 3) that are not off are in alarm as it needs, or more",
                        "just as many", ZoneEdgeTest::justAsMany)
                .holds("as many of its devices (of kinds 1 to 3) that are not off are in alarm as it needs, or more",
                        "more", ZoneEdgeTest::moreThanNeeded)
                .holds("as many of its devices (of kinds 1 to 3) that are not off are in alarm as it needs, or more",
                        "not those of another zone", ZoneEdgeTest::alarmsOfAnotherZone)
                .holds("as many of its devices (of kinds 1 to 3) that are not off are in alarm as it needs, or more",
                        "not those that are off", ZoneEdgeTest::alarmsThatAreOff)
                .holds("as many of its devices (of kinds 1 to 3) that are not off are in alarm as it needs, or more",
                        "those that are not reached too", ZoneEdgeTest::alarmsUnreached)
                .holds("or a button is among these", "one alone, where 4 are needed", ZoneEdgeTest::buttonAlone)
                .holds("or a button is among these", "not one that is off", ZoneEdgeTest::buttonOff)
                .holds("or a button is among these", "not one that is not in alarm", ZoneEdgeTest::buttonUntouched)
                .holds("Each zone, from 0 on", "the order of entries, and how many", ZoneEdgeTest::zonesInOrder)
                .holds("This is logged (1)", "once for a fire", ZoneEdgeTest::fireIsLoggedOnce)
                .holds("and silence ends", "by a new fire, not by an old one", ZoneEdgeTest::silenceEnds)
                .holds("how many zones came to be in fire by it", "none, some and all", ZoneEdgeTest::howManyCame);
    }

    private static Sentences offOfFire() {
        return new Sentences("Promise 9 (2)")
                .holds("that is not off and not in fire", "a zone that is off", ZoneEdgeTest::zoneOffBurnsNot)
                .holds("that is not off and not in fire", "a zone switched on again", ZoneEdgeTest::zoneOnAgain)
                .holds("it is in FIRE (until reset())", "without its devices", ZoneEdgeTest::fireOutlivesDevice)
                .holds("it is in FIRE (until reset())", "with the zone off", ZoneEdgeTest::fireOutlivesOff)
                .holds("it is in FIRE (until reset())", "reset ends it", ZoneEdgeTest::resetEndsFire);
    }

    private static Sentences off() {
        return new Sentences("Promise 13")
                .holds("A place, or (zone true) a zone, is off or not", "the first and the last place",
                        ZoneEdgeTest::offOfPlaces)
                .holds("A place, or (zone true) a zone, is off or not", "the first and the last zone",
                        ZoneEdgeTest::offOfZones)
                .holds("whether that was a change (then it is logged)", "a place, there and back",
                        ZoneEdgeTest::changeOfPlace)
                .holds("whether that was a change (then it is logged)", "a zone, there and back",
                        ZoneEdgeTest::changeOfZone)
                .holds("whether that was a change (then it is logged)", "no change, no entry", ZoneEdgeTest::noChange)
                .holds("NoSuchElementException", "places below 0 and above 15", ZoneEdgeTest::offNoSuchPlace)
                .holds("NoSuchElementException", "zones below 0 and above 3", ZoneEdgeTest::offNoSuchZone)
                .holds("LEVEL 2", "levels 0 and 1", ZoneEdgeTest::offBelowLevelTwo)
                .holds("a call ends by the first that holds", "no such number before the level",
                        ZoneEdgeTest::offInOrder);
    }

    private static Sentences zone() {
        return new Sentences("Promise 17")
                .holds("1 if it is in fire", "alone", ZoneEdgeTest::fireAlone)
                .holds("2 if there is a warning", "alone", ZoneEdgeTest::warningAlone)
                .holds("4 if it is off", "alone", ZoneEdgeTest::offAlone)
                .holds("1 if it is in fire + 2 if there is a warning + 4 if it is off", "all of them",
                        ZoneEdgeTest::allOfZone)
                .holds("NoSuchElementException", "zones below 0 and above 3", ZoneEdgeTest::noSuchZone);
    }

    private static Sentences warning() {
        return new Sentences("Promise 17 (Terms, warning)")
                .holds("a device of it, not off, is in alarm", "each kind", ZoneEdgeTest::warningByAlarm)
                .holds("a device of it, not off, is in alarm", "not one that is off", ZoneEdgeTest::noWarningByOff)
                .holds("a smoke of it, not off, has a level not below its threshold * 0.75f", "just at it",
                        ZoneEdgeTest::smokeAtThreeQuarters)
                .holds("a smoke of it, not off, has a level not below its threshold * 0.75f", "just below it",
                        ZoneEdgeTest::smokeBelowThreeQuarters)
                .holds("a smoke of it, not off, has a level not below its threshold * 0.75f", "not one that is off",
                        ZoneEdgeTest::smokeOff)
                .holds("a smoke of it, not off, has a level not below its threshold * 0.75f",
                        "not a heat, a button or nothing", ZoneEdgeTest::levelOfOthers)
                .holds("a smoke of it, not off, has a level not below its threshold * 0.75f", "not of another zone",
                        ZoneEdgeTest::smokeOfAnotherZone)
                .holds("a smoke of it, not off, has a level not below its threshold * 0.75f", "it ends with the level",
                        ZoneEdgeTest::warningEnds);
    }

    /** So many heats in a zone, from this place on, that are over with each poll. */
    private static void heats(Real panel, int from, int many, int zone) {
        for (int i = from; i < from + many; i++) {
            panel.fit(i, Panels.HEAT, zone, 1f);
            panel.reading(i, 100f);
        }
    }

    private static Real heatsIn(int zone, int many, int needed) {
        Real panel = Panels.atLevel2();
        panel.need(zone, needed);
        heats(panel, 0, many, zone);
        return panel;
    }

    private static int thirdPoll(Real panel) {
        Panels.poll(panel, 2);
        return panel.poll();
    }

    private static void needAtFirst(Due due) {
        for (int zone = 0; zone < 4; zone++) {
            Real panel = Panels.atLevel2();
            heats(panel, 3, 1, zone);
            due.is("third poll() with a heat in zone " + zone, thirdPoll(panel), 1);
        }
    }

    private static void needOneToFour(Due due) {
        for (int needed = 1; needed <= 4; needed++) {
            due.is("with one too few of " + needed, thirdPoll(heatsIn(0, needed - 1, needed)), 0);
            due.is("with " + needed, thirdPoll(heatsIn(0, needed, needed)), 1);
            due.is("with " + needed + " in zone 3", thirdPoll(heatsIn(3, needed, needed)), 1);
        }
    }

    private static void needOfOneZone(Due due) {
        Real panel = Panels.atLevel2();
        panel.need(1, 2);
        for (int zone = 0; zone < 4; zone++) {
            heats(panel, zone, 1, zone);
        }
        due.is("third poll()", thirdPoll(panel), 3);
        due.is("zone(1)", panel.zone(1), 2);
    }

    private static void needWaits(Due due) {
        Real panel = heatsIn(2, 1, 2);
        Panels.poll(panel, 3);
        panel.need(2, 1);
        due.is("zone(2)", panel.zone(2), 2);
        due.is("entries", Panels.entries(panel), 0);
        due.is("poll()", panel.poll(), 1);
        panel.need(2, 4);
        panel.poll();
        due.is("zone(2), in fire already", panel.zone(2), 3);
    }

    private static void needWrongMany(Due due) {
        Real panel = Panels.atLevel2();
        for (int many : new int[] {0, 5, -1, Integer.MIN_VALUE, Integer.MAX_VALUE}) {
            due.refused("need(0, " + many + ")", panel, Sentences.ARGUMENT, () -> panel.need(0, many));
            due.refused("need(3, " + many + ")", panel, Sentences.ARGUMENT, () -> panel.need(3, many));
        }
    }

    private static void needNoSuchZone(Due due) {
        Real panel = Panels.atLevel2();
        for (int zone : NO_ZONES) {
            due.refused("need(" + zone + ", 1)", panel, Sentences.NO_SUCH, () -> panel.need(zone, 1));
        }
    }

    private static void needBelowLevelTwo(Due due) {
        Real panel = new Real();
        due.refused("need at level 0", panel, Sentences.STATE, () -> panel.need(0, 2));
        panel.key(1357);
        due.refused("need at level 1", panel, Sentences.STATE, () -> panel.need(0, 2));
    }

    private static void needInOrder(Due due) {
        Real panel = new Real();
        due.refused("need(4, 0) at level 0", panel, Sentences.NO_SUCH, () -> panel.need(4, 0));
        due.refused("need(4, 1) at level 0", panel, Sentences.NO_SUCH, () -> panel.need(4, 1));
        due.refused("need(0, 0) at level 0", panel, Sentences.ARGUMENT, () -> panel.need(0, 0));
        panel.key(2468);
        due.refused("need(-1, 5) at level 2", panel, Sentences.NO_SUCH, () -> panel.need(-1, 5));
    }

    private static void refuseNeeds(Due due, Real panel) {
        due.refused("need(0, 0)", panel, Sentences.ARGUMENT, () -> panel.need(0, 0));
        due.refused("need(0, 5)", panel, Sentences.ARGUMENT, () -> panel.need(0, 5));
        due.refused("need(4, 1)", panel, Sentences.NO_SUCH, () -> panel.need(4, 1));
        panel.key(1357);
        due.refused("need(0, 4) at level 1", panel, Sentences.STATE, () -> panel.need(0, 4));
        due.refused("need(0, 1) at level 1", panel, Sentences.STATE, () -> panel.need(0, 1));
    }

    private static void refusedNeed(Due due) {
        for (int many = 1; many <= 2; many++) {
            Real panel = heatsIn(0, many, 2);
            refuseNeeds(due, panel);
            due.is("third poll() with " + many + " of two", thirdPoll(panel), many == 2 ? 1 : 0);
        }
    }

    private static void oneTooFew(Due due) {
        Real panel = heatsIn(1, 3, 4);
        due.is("third poll()", thirdPoll(panel), 0);
        due.is("zone(1)", panel.zone(1), 2);
        due.is("entries", Panels.entries(panel), 0);
    }

    private static void justAsMany(Due due) {
        Real panel = heatsIn(1, 4, 4);
        due.is("third poll()", thirdPoll(panel), 1);
        due.is("zone(1)", panel.zone(1), 3);
    }

    private static void moreThanNeeded(Due due) {
        due.is("third poll() with 3 of 2", thirdPoll(heatsIn(1, 3, 2)), 1);
        due.is("third poll() with 16 of 1", thirdPoll(heatsIn(1, 16, 1)), 1);
    }

    private static void alarmsOfAnotherZone(Due due) {
        Real panel = heatsIn(1, 1, 2);
        heats(panel, 8, 3, 2);
        panel.need(2, 4);
        due.is("third poll()", thirdPoll(panel), 0);
        due.is("zones", panel.zone(1) + " " + panel.zone(2), "2 2");
    }

    private static void alarmsThatAreOff(Due due) {
        Real panel = heatsIn(1, 2, 2);
        panel.off(true, 1, true);
        Panels.poll(panel, 3);
        panel.off(false, 0, true);
        panel.off(true, 1, false);
        due.is("poll() with one of two off", panel.poll(), 0);
        panel.off(false, 0, false);
        due.is("poll() with both on", panel.poll(), 1);
    }

    private static void alarmsUnreached(Due due) {
        Real panel = heatsIn(1, 2, 2);
        panel.off(true, 1, true);
        Panels.poll(panel, 3);
        panel.wire(0, 2);
        panel.off(true, 1, false);
        due.is("poll()", panel.poll(), 1);
    }

    private static void buttonAlone(Due due) {
        Real panel = Panels.atLevel2();
        panel.need(3, 4);
        Panels.press(panel, 15, 3);
        due.is("poll()", panel.poll(), 1);
        due.is("zone(3)", panel.zone(3), 3);
    }

    private static void buttonOff(Due due) {
        Real panel = Panels.atLevel2();
        panel.need(3, 2);
        Panels.press(panel, 15, 3);
        panel.off(true, 3, true);
        panel.poll();
        panel.off(false, 15, true);
        panel.off(true, 3, false);
        due.is("poll()", panel.poll(), 0);
        due.is("place(15), in alarm and off", panel.place(15), 48 + 8 + 2 + 1);
    }

    private static void buttonUntouched(Due due) {
        Real panel = heatsIn(0, 1, 2);
        panel.fit(9, Panels.BUTTON, 0, 1f);
        due.is("third poll() with a heat's alarm", thirdPoll(panel), 0);
        panel.reading(9, 1f);
        due.is("poll() with the button pressed", panel.poll(), 1);
    }

    private static void zonesInOrder(Due due) {
        Real panel = Panels.atLevel2();
        for (int zone = 0; zone < 4; zone++) {
            Panels.press(panel, 12 - zone, zone);
        }
        panel.poll();
        for (int i = 0; i < 4; i++) {
            due.is("entry " + i, Panels.entry(panel, i), "1 " + (3 - i) + " 1");
        }
        due.is("entries", Panels.entries(panel), 4);
    }

    private static void fireIsLoggedOnce(Due due) {
        Real panel = Panels.atLevel2();
        Panels.press(panel, 0, 2);
        Panels.poll(panel, 4);
        due.is("entries", Panels.entries(panel), 1);
        due.is("the entry", Panels.entry(panel, 0), "1 2 1");
    }

    private static void silenceEnds(Due due) {
        Real panel = Panels.atLevel2();
        Panels.press(panel, 0, 2);
        panel.silence();
        panel.poll();
        due.is("count(3) by a fire", panel.count(3), 0);
        panel.silence();
        panel.poll();
        due.is("count(3) by no new fire", panel.count(3), 1);
        heats(panel, 1, 1, 2);
        Panels.poll(panel, 3);
        due.is("count(3) by an alarm in a zone in fire", panel.count(3), 1);
        Panels.press(panel, 4, 3);
        panel.poll();
        due.is("count(3) by a fire of another zone", panel.count(3), 0);
    }

    private static void howManyCame(Due due) {
        Real panel = Panels.atLevel2();
        due.is("poll() of none", panel.poll(), 0);
        Panels.press(panel, 0, 0);
        due.is("poll() of the first", panel.poll(), 1);
        Panels.press(panel, 1, 1);
        Panels.press(panel, 2, 3);
        due.is("poll() of two more", panel.poll(), 2);
        due.is("poll() of no more", panel.poll(), 0);
        panel.reset();
        Panels.press(panel, 3, 2);
        due.is("poll() of all", panel.poll(), 4);
    }

    private static void zoneOffBurnsNot(Due due) {
        Real panel = Panels.atLevel2();
        panel.off(true, 1, true);
        Panels.press(panel, 0, 1);
        heats(panel, 1, 4, 1);
        due.is("third poll()", thirdPoll(panel), 0);
        due.is("zone(1)", panel.zone(1), 4 + 2);
        due.is("place(0)", panel.place(0), 51);
        due.is("entries behind its own", Panels.entries(panel), 1);
    }

    private static void zoneOnAgain(Due due) {
        Real panel = Panels.atLevel2();
        panel.off(true, 1, true);
        Panels.press(panel, 0, 1);
        panel.poll();
        panel.reading(0, 0f);
        panel.off(true, 1, false);
        due.is("zone(1) before the poll", panel.zone(1), 2);
        due.is("poll()", panel.poll(), 1);
    }

    private static void fireOutlivesDevice(Due due) {
        Real panel = Panels.atLevel2();
        Panels.press(panel, 0, 1);
        panel.poll();
        panel.fit(0, Panels.NOTHING, 0, 1f);
        due.is("poll()", panel.poll(), 0);
        due.is("zone(1)", panel.zone(1), 1);
    }

    private static void fireOutlivesOff(Due due) {
        Real panel = Panels.atLevel2();
        Panels.press(panel, 0, 1);
        panel.poll();
        panel.off(true, 1, true);
        panel.off(false, 0, true);
        due.is("zone(1)", panel.zone(1), 4 + 1);
        panel.poll();
        due.is("zone(1) behind a poll", panel.zone(1), 4 + 1);
        panel.off(true, 1, false);
        due.is("poll() of a zone on again", panel.poll(), 0);
    }

    private static void resetEndsFire(Due due) {
        Real panel = Panels.atLevel2();
        Panels.press(panel, 0, 1);
        panel.poll();
        panel.reset();
        due.is("zone(1)", panel.zone(1), 0);
        due.is("poll(), the button still pressed", panel.poll(), 1);
    }

    private static void offOfPlaces(Due due) {
        for (int place : new int[] {0, 3, 4, 15}) {
            Real panel = Panels.atLevel2();
            due.is("off(false, " + place + ", true)", panel.off(false, place, true), true);
            for (int i = 0; i < 16; i++) {
                due.is("place(" + i + ")", panel.place(i), i == place ? 9 : 1);
            }
            for (int i = 0; i < 4; i++) {
                due.is("zone(" + i + ")", panel.zone(i), 0);
            }
        }
    }

    private static void offOfZones(Due due) {
        for (int zone : new int[] {0, 3}) {
            Real panel = Panels.atLevel2();
            due.is("off(true, " + zone + ", true)", panel.off(true, zone, true), true);
            for (int i = 0; i < 4; i++) {
                due.is("zone(" + i + ")", panel.zone(i), i == zone ? 4 : 0);
            }
            due.is("the place of its number", panel.place(zone), 1);
        }
    }

    private static void changeOfPlace(Due due) {
        Real panel = Panels.atLevel2();
        due.is("off(false, 15, true)", panel.off(false, 15, true), true);
        due.is("its entry", Panels.entry(panel, 0), "7 25 0");
        panel.poll();
        due.is("off(false, 15, false)", panel.off(false, 15, false), true);
        due.is("its entry", Panels.entry(panel, 0), "7 25 1");
        due.is("place(15)", panel.place(15), 1);
        panel.off(false, 0, true);
        due.is("the entry of place 0", Panels.entry(panel, 0), "7 10 1");
    }

    private static void changeOfZone(Due due) {
        Real panel = Panels.atLevel2();
        due.is("off(true, 3, true)", panel.off(true, 3, true), true);
        due.is("its entry", Panels.entry(panel, 0), "7 3 0");
        panel.poll();
        due.is("off(true, 3, false)", panel.off(true, 3, false), true);
        due.is("its entry", Panels.entry(panel, 0), "7 3 1");
        due.is("zone(3)", panel.zone(3), 0);
        panel.off(true, 0, true);
        due.is("the entry of zone 0", Panels.entry(panel, 0), "7 0 1");
    }

    private static void noChange(Due due) {
        Real panel = Panels.atLevel2();
        due.is("off(false, 2, false) of one that is on", panel.off(false, 2, false), false);
        due.is("off(true, 2, false) of one that is on", panel.off(true, 2, false), false);
        due.is("entries", Panels.entries(panel), 0);
        panel.off(false, 2, true);
        panel.off(true, 2, true);
        due.is("off(false, 2, true) of one that is off", panel.off(false, 2, true), false);
        due.is("off(true, 2, true) of one that is off", panel.off(true, 2, true), false);
        due.is("entries of the two changes", Panels.entries(panel), 2);
    }

    private static void offNoSuchPlace(Due due) {
        Real panel = Panels.atLevel2();
        for (int place : NO_PLACES) {
            due.refused("off(false, " + place + ", true)", panel, Sentences.NO_SUCH,
                    () -> panel.off(false, place, true));
            due.refused("off(false, " + place + ", false)", panel, Sentences.NO_SUCH,
                    () -> panel.off(false, place, false));
        }
    }

    private static void offNoSuchZone(Due due) {
        Real panel = Panels.atLevel2();
        for (int zone : NO_ZONES) {
            due.refused("off(true, " + zone + ", true)", panel, Sentences.NO_SUCH, () -> panel.off(true, zone, true));
            due.refused("off(true, " + zone + ", false)", panel, Sentences.NO_SUCH,
                    () -> panel.off(true, zone, false));
        }
    }

    private static void offBelowLevelTwo(Due due) {
        Real panel = new Real();
        for (int code : new int[] {0, 1357}) {
            int level = panel.key(code);
            due.refused("off of a place at level " + level, panel, Sentences.STATE, () -> panel.off(false, 0, true));
            due.refused("off of a zone at level " + level, panel, Sentences.STATE, () -> panel.off(true, 0, true));
            due.refused("no change at level " + level, panel, Sentences.STATE, () -> panel.off(true, 0, false));
        }
    }

    private static void offInOrder(Due due) {
        Real panel = new Real();
        due.refused("off(false, 16, true) at level 0", panel, Sentences.NO_SUCH, () -> panel.off(false, 16, true));
        due.refused("off(true, 4, true) at level 0", panel, Sentences.NO_SUCH, () -> panel.off(true, 4, true));
    }

    private static void fireAlone(Due due) {
        Real panel = Panels.atLevel2();
        Panels.press(panel, 0, 0);
        panel.poll();
        panel.fit(0, Panels.NOTHING, 0, 1f);
        due.is("zone(0)", panel.zone(0), 1);
        due.is("zone(1)", panel.zone(1), 0);
    }

    private static void warningAlone(Due due) {
        Real panel = heatsIn(3, 1, 2);
        Panels.poll(panel, 3);
        due.is("zone(3)", panel.zone(3), 2);
        due.is("zone(2)", panel.zone(2), 0);
    }

    private static void offAlone(Due due) {
        Real panel = Panels.atLevel2();
        panel.off(true, 0, true);
        due.is("zone(0)", panel.zone(0), 4);
        due.is("zone(3)", panel.zone(3), 0);
    }

    private static void allOfZone(Due due) {
        Real panel = Panels.atLevel2();
        Panels.press(panel, 0, 3);
        panel.poll();
        panel.off(true, 3, true);
        due.is("zone(3)", panel.zone(3), 7);
    }

    private static void noSuchZone(Due due) {
        Real panel = Panels.atLevel2();
        for (int zone : NO_ZONES) {
            due.refused("zone(" + zone + ")", panel, Sentences.NO_SUCH, () -> panel.zone(zone));
        }
    }

    private static void warningByAlarm(Due due) {
        for (int kind : new int[] {Panels.SMOKE, Panels.HEAT, Panels.BUTTON}) {
            Real panel = Panels.atLevel2();
            panel.off(true, 2, true);
            panel.fit(15, kind, 2, 10f);
            panel.reading(15, 100f);
            Panels.poll(panel, 3);
            panel.reading(15, -100f);
            panel.poll();
            due.is("zone(2) by kind " + kind, panel.zone(2), 4 + 2);
        }
    }

    private static void noWarningByOff(Due due) {
        Real panel = heatsIn(2, 1, 2);
        Panels.poll(panel, 3);
        panel.off(false, 0, true);
        due.is("zone(2)", panel.zone(2), 0);
        panel.off(false, 0, false);
        due.is("zone(2), on again", panel.zone(2), 2);
    }

    private static Real smoke(float threshold, float reading) {
        Real panel = Panels.atLevel2();
        panel.fit(7, Panels.SMOKE, 1, threshold);
        panel.reading(7, reading);
        panel.poll();
        return panel;
    }

    private static void smokeAtThreeQuarters(Due due) {
        due.is("zone(1) of level 12, threshold 16", smoke(16f, 24f).zone(1), 2);
        due.is("zone(1) of level 75, threshold 100", smoke(100f, 150f).zone(1), 2);
        due.is("zone(1) of level 0.375, threshold 0.5", smoke(0.5f, 0.75f).zone(1), 2);
    }

    private static void smokeBelowThreeQuarters(Due due) {
        due.is("zone(1) of just below 12, threshold 16", smoke(16f, Math.nextDown(24f)).zone(1), 0);
        due.is("zone(1) of just below 75, threshold 100", smoke(100f, Math.nextDown(150f)).zone(1), 0);
        due.is("zone(1) of just below 0.375, threshold 0.5", smoke(0.5f, Math.nextDown(0.75f)).zone(1), 0);
    }

    private static void smokeOff(Due due) {
        Real panel = smoke(16f, 30f);
        panel.off(false, 7, true);
        due.is("zone(1)", panel.zone(1), 0);
        panel.off(false, 7, false);
        due.is("zone(1), on again", panel.zone(1), 2);
    }

    private static void levelOfOthers(Due due) {
        for (int kind : new int[] {Panels.NOTHING, Panels.HEAT, Panels.ISOLATOR}) {
            Real panel = Panels.atLevel2();
            panel.fit(7, kind, 1, 1f);
            panel.reading(7, 200f);
            panel.poll();
            due.is("zone(1) by kind " + kind, panel.zone(1), 0);
        }
        Real panel = Panels.atLevel2();
        Panels.press(panel, 7, 1);
        panel.poll();
        panel.reset();
        due.is("zone(1) by a button's level", panel.zone(1), 0);
        due.is("zone(0) of a new panel", new Real().zone(0), 0);
    }

    private static void smokeOfAnotherZone(Due due) {
        Real panel = smoke(16f, 30f);
        due.is("zones", panel.zone(0) + " " + panel.zone(1) + " " + panel.zone(2) + " " + panel.zone(3), "0 2 0 0");
    }

    private static void warningEnds(Due due) {
        Real panel = smoke(16f, 30f);
        panel.reading(7, -100f);
        due.is("zone(1) before the poll", panel.zone(1), 2);
        panel.poll();
        due.is("zone(1)", panel.zone(1), 0);
        due.is("entries", Panels.entries(panel), 0);
    }
}
