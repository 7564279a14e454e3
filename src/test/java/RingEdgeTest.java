/** Terms of the ring, promises 4 and 16: each sentence with its edges. */
public final class RingEdgeTest {
    private static final String ALL = "RRRRRRRRRRRRRRRR";
    private static final String NO_ONE = "----------------";
    private static final int[] NO_WIRES = {-1, 17, 33, Integer.MIN_VALUE, Integer.MAX_VALUE};
    private static final int[] NO_PLACES = {-1, 16, 32, Integer.MIN_VALUE, Integer.MAX_VALUE};
    private static final int WHOLE = 0;
    private static final int BROKEN = 1;
    private static final int SHORT = 2;

    public static void main(String[] args) {
        Sentences.end(ring(), stretches(), reached(), wire(), place());
    }

    private static Sentences ring() {
        return new Sentences("Promise 4 (Terms, the ring)")
                .holds("WIRES 0 .. 16", "the first and the last", RingEdgeTest::firstAndLastWire)
                .holds("wire k lies between place k - 1 and place k", "each k", RingEdgeTest::wireLiesBetween)
                .holds("wire 0 begins, and wire 16 ends, at the panel", "both broken", RingEdgeTest::endsBroken)
                .holds("A wire is WHOLE (at first)", "each wire", RingEdgeTest::wholeAtFirst);
    }

    private static Sentences stretches() {
        return new Sentences("Promise 4 (Terms, the stretches)")
                .holds("Isolators part the ring into STRETCHES of wires", "one isolator at each place",
                        RingEdgeTest::oneIsolator)
                .holds("Isolators part the ring into STRETCHES of wires", "an isolator at every place",
                        RingEdgeTest::sixteenIsolators)
                .holds("Isolators part the ring into STRETCHES of wires", "no other device does",
                        RingEdgeTest::othersDoNotPart)
                .holds("Isolators part the ring into STRETCHES of wires", "off ones too",
                        RingEdgeTest::offIsolators)
                .holds("Isolators part the ring into STRETCHES of wires", "the ends are not one stretch",
                        RingEdgeTest::endsAreApart)
                .holds("(without any, all wires are one)", "a short of each wire", RingEdgeTest::withoutIsolators)
                .holds("A stretch with a short wire is DEAD.", "its first and its last wire",
                        RingEdgeTest::anyWireOfAStretch)
                .holds("A stretch with a short wire is DEAD.", "a stretch of one wire", RingEdgeTest::oneWireStretch)
                .holds("A stretch with a short wire is DEAD.", "all its wires are short", RingEdgeTest::allWiresShort)
                .holds("A stretch with a short wire is DEAD.", "a break besides the short",
                        RingEdgeTest::shortBesideBreak)
                .holds("A stretch with a short wire is DEAD.", "a break alone leaves it alive",
                        RingEdgeTest::breakIsNoShort);
    }

    private static Sentences reached() {
        return new Sentences("Promise 16 (Terms, reached)")
                .holds("A place is REACHED if all wires from one of the ring's ends up to it", "from the first end",
                        RingEdgeTest::fromFirstEnd)
                .holds("A place is REACHED if all wires from one of the ring's ends up to it", "from the last end",
                        RingEdgeTest::fromLastEnd)
                .holds("A place is REACHED if all wires from one of the ring's ends up to it", "from neither",
                        RingEdgeTest::fromNeither)
                .holds("are not broken and in no dead stretch", "a break on one side, a short on the other",
                        RingEdgeTest::breakAndShort)
                .holds("are not broken and in no dead stretch", "two dead stretches", RingEdgeTest::twoDead);
    }

    private static Sentences wire() {
        return new Sentences("Promise 4")
                .holds("A wire becomes whole (0), broken (1), short (2).", "from each to each",
                        RingEdgeTest::fromEachToEach)
                .holds("A wire becomes whole (0), broken (1), short (2).", "at level 0, and not logged",
                        RingEdgeTest::wireAtLevelZero)
                .holds("NoSuchElementException", "wires below 0 and above 16", RingEdgeTest::noSuchWire)
                .holds("IllegalArgumentException: how is none of these.", "below 0 and above 2", RingEdgeTest::wrongHow)
                .holds("a call ends by the first that holds", "no such wire and a wrong how",
                        RingEdgeTest::wireBeforeHow)
                .holds("Such a call changes nothing", "a refused wire", RingEdgeTest::refusedWire);
    }

    private static Sentences place() {
        return new Sentences("Promise 16")
                .holds("1 if it is reached now", "without a poll", RingEdgeTest::reachedNow)
                .holds("2 if it is in alarm", "alone of its kind", RingEdgeTest::alarmAlone)
                .holds("4 if at fault", "alone of its kind", RingEdgeTest::faultAlone)
                .holds("8 if off", "without a device too", RingEdgeTest::offAlone)
                .holds("16 * its kind", "each kind", RingEdgeTest::kinds)
                .holds("1 if it is reached now + 2 if it is in alarm + 4 if at fault + 8 if off + 16 * its kind",
                        "all of them, and none", RingEdgeTest::allAndNone)
                .holds("NoSuchElementException", "places below 0 and above 15", RingEdgeTest::noSuchPlace);
    }

    /** A character a place: R reached, - not. */
    private static String seen(Real panel) {
        StringBuilder text = new StringBuilder();
        for (int i = 0; i < 16; i++) {
            text.append((panel.place(i) & 1) == 1 ? 'R' : '-');
        }
        return text.toString();
    }

    /** The same text for the places from first to last alone. */
    private static String only(int first, int last) {
        StringBuilder text = new StringBuilder();
        for (int i = 0; i < 16; i++) {
            text.append(i >= first && i <= last ? 'R' : '-');
        }
        return text.toString();
    }

    private static Real isolators(int... places) {
        Real panel = Panels.atLevel2();
        for (int place : places) {
            panel.fit(place, Panels.ISOLATOR, 0, 1f);
        }
        return panel;
    }

    private static Real wires(Real panel, int how, int... wires) {
        for (int wire : wires) {
            panel.wire(wire, how);
        }
        return panel;
    }

    private static void firstAndLastWire(Due due) {
        due.is("wires 0 and 8 broken", seen(wires(new Real(), BROKEN, 0, 8)), only(8, 15));
        due.is("wires 8 and 16 broken", seen(wires(new Real(), BROKEN, 8, 16)), only(0, 7));
    }

    private static void wireLiesBetween(Due due) {
        for (int k = 0; k < 16; k++) {
            StringBuilder want = new StringBuilder(ALL);
            want.setCharAt(k, '-');
            due.is("wires " + k + " and " + (k + 1) + " broken",
                    seen(wires(new Real(), BROKEN, k, k + 1)), want.toString());
        }
    }

    private static void endsBroken(Due due) {
        due.is("wires 0 and 16 broken", seen(wires(new Real(), BROKEN, 0, 16)), NO_ONE);
        due.is("wire 0 broken", seen(wires(new Real(), BROKEN, 0)), ALL);
        due.is("wire 16 broken", seen(wires(new Real(), BROKEN, 16)), ALL);
    }

    private static void wholeAtFirst(Due due) {
        due.is("a new ring", seen(new Real()), ALL);
        for (int k = 0; k <= 16; k++) {
            due.is("with wire " + k + " alone broken", seen(wires(new Real(), BROKEN, k)), ALL);
        }
    }

    private static void oneIsolator(Due due) {
        for (int p = 0; p < 16; p++) {
            for (int k = 0; k <= 16; k++) {
                due.is("isolator " + p + ", short " + k, seen(wires(isolators(p), SHORT, k)),
                        k <= p ? only(p, 15) : only(0, p));
            }
        }
    }

    private static void sixteenIsolators(Due due) {
        int[] every = {0, 1, 2, 3, 4, 5, 6, 7, 8, 9, 10, 11, 12, 13, 14, 15};
        for (int k = 0; k <= 16; k++) {
            due.is("short " + k, seen(wires(isolators(every), SHORT, k)), ALL);
        }
        due.is("shorts 3 and 9", seen(wires(isolators(every), SHORT, 3, 9)), "RRR------RRRRRRR");
    }

    private static void othersDoNotPart(Due due) {
        for (int kind : new int[] {Panels.NOTHING, Panels.SMOKE, Panels.HEAT, Panels.BUTTON}) {
            Real panel = Panels.atLevel2();
            for (int p = 0; p < 16; p++) {
                panel.fit(p, kind, 0, 1f);
            }
            due.is("short 8 among kind " + kind, seen(wires(panel, SHORT, 8)), NO_ONE);
        }
    }

    private static void offIsolators(Due due) {
        Real panel = isolators(4, 9);
        panel.off(false, 4, true);
        panel.off(false, 9, true);
        due.is("short 7", seen(wires(panel, SHORT, 7)), "RRRRR----RRRRRRR");
    }

    private static void endsAreApart(Due due) {
        due.is("short 0", seen(wires(isolators(4, 11), SHORT, 0)), only(4, 15));
        due.is("short 16", seen(wires(isolators(4, 11), SHORT, 16)), only(0, 11));
    }

    private static void withoutIsolators(Due due) {
        for (int k = 0; k <= 16; k++) {
            due.is("short " + k, seen(wires(new Real(), SHORT, k)), NO_ONE);
        }
        Real panel = isolators(8);
        panel.fit(8, Panels.NOTHING, 0, 1f);
        due.is("with the only isolator taken away", seen(wires(panel, SHORT, 12)), NO_ONE);
    }

    private static void anyWireOfAStretch(Due due) {
        for (int k = 5; k <= 9; k++) {
            due.is("short " + k, seen(wires(isolators(4, 9), SHORT, k)), "RRRRR----RRRRRRR");
        }
        due.is("short 4, of the stretch before", seen(wires(isolators(4, 9), SHORT, 4)), only(4, 15));
        due.is("short 10, of the stretch behind", seen(wires(isolators(4, 9), SHORT, 10)), only(0, 9));
    }

    private static void oneWireStretch(Due due) {
        Real panel = wires(isolators(6, 7), SHORT, 7);
        due.is("short 7", seen(panel), ALL);
        due.is("and wire 0 broken", seen(wires(panel, BROKEN, 0)), only(7, 15));
        panel = wires(isolators(6, 7), SHORT, 7);
        due.is("and wire 16 broken", seen(wires(panel, BROKEN, 16)), only(0, 6));
        due.is("short 0 before isolator 0", seen(wires(isolators(0), SHORT, 0)), ALL);
        due.is("short 16 behind isolator 15", seen(wires(isolators(15), SHORT, 16)), ALL);
    }

    private static void allWiresShort(Due due) {
        due.is("shorts 5 to 9", seen(wires(isolators(4, 9), SHORT, 5, 6, 7, 8, 9)), "RRRRR----RRRRRRR");
        Real panel = wires(isolators(4, 9), SHORT, 5, 6, 7, 8, 9);
        due.is("all but the last one mended", seen(wires(panel, WHOLE, 5, 6, 7, 8)), "RRRRR----RRRRRRR");
        due.is("all mended, with a break", seen(wires(wires(panel, WHOLE, 9), BROKEN, 2)), ALL);
    }

    private static void shortBesideBreak(Due due) {
        Real panel = wires(wires(isolators(4, 9), SHORT, 6), BROKEN, 8);
        due.is("short 6, break 8", seen(panel), "RRRRR----RRRRRRR");
        panel = wires(wires(isolators(4, 9), SHORT, 8), BROKEN, 6);
        due.is("break 6, short 8", seen(panel), "RRRRR----RRRRRRR");
    }

    private static void breakIsNoShort(Due due) {
        due.is("break 7", seen(wires(isolators(4, 9), BROKEN, 7)), ALL);
        due.is("breaks 6 and 8", seen(wires(isolators(4, 9), BROKEN, 6, 8)), "RRRRRR--RRRRRRRR");
    }

    private static void fromFirstEnd(Due due) {
        for (int k = 0; k <= 15; k++) {
            due.is("breaks " + k + " and 16", seen(wires(new Real(), BROKEN, k, 16)), only(0, k - 1));
        }
    }

    private static void fromLastEnd(Due due) {
        for (int k = 1; k <= 16; k++) {
            due.is("breaks 0 and " + k, seen(wires(new Real(), BROKEN, 0, k)), only(k, 15));
        }
    }

    private static void fromNeither(Due due) {
        due.is("breaks 1 and 15", seen(wires(new Real(), BROKEN, 1, 15)), "R--------------R");
        due.is("breaks 3, 7 and 12", seen(wires(new Real(), BROKEN, 3, 7, 12)), "RRR---------RRRR");
    }

    private static void breakAndShort(Due due) {
        Real panel = wires(wires(isolators(4, 9), SHORT, 7), BROKEN, 2);
        due.is("break 2, short 7", seen(panel), "RR-------RRRRRRR");
        panel = wires(wires(isolators(4, 9), SHORT, 7), BROKEN, 13);
        due.is("short 7, break 13", seen(panel), "RRRRR--------RRR");
        panel = wires(wires(isolators(4, 9), SHORT, 0), BROKEN, 16);
        due.is("short 0, break 16", seen(panel), NO_ONE);
    }

    private static void twoDead(Due due) {
        due.is("shorts 3 and 14", seen(wires(isolators(2, 5, 9, 14), SHORT, 3, 14)), "RRR-----------RR");
        due.is("shorts 0 and 16", seen(wires(isolators(2, 13), SHORT, 0, 16)), NO_ONE);
    }

    private static void fromEachToEach(Due due) {
        String[] want = {ALL, "RRRRRRRRRRRR----", "RRRRRRRRR-------"};
        for (int from = 0; from <= 2; from++) {
            for (int to = 0; to <= 2; to++) {
                Real panel = wires(isolators(8), from, 12);
                panel.wire(12, to);
                panel.wire(16, to == WHOLE ? WHOLE : BROKEN);
                due.is("from " + from + " to " + to, seen(panel), want[to]);
            }
        }
    }

    private static void wireAtLevelZero(Due due) {
        Real panel = wires(new Real(), SHORT, 0);
        due.is("a short at level 0", seen(panel), NO_ONE);
        due.is("entries", Panels.entries(panel), 0);
    }

    private static void noSuchWire(Due due) {
        Real panel = Panels.atLevel2();
        for (int wire : NO_WIRES) {
            due.refused("wire(" + wire + ", 1)", panel, Sentences.NO_SUCH, () -> panel.wire(wire, BROKEN));
        }
    }

    private static void wrongHow(Due due) {
        Real panel = Panels.atLevel2();
        for (int how : new int[] {-1, 3, Integer.MIN_VALUE, Integer.MAX_VALUE}) {
            due.refused("wire(0, " + how + ")", panel, Sentences.ARGUMENT, () -> panel.wire(0, how));
            due.refused("wire(16, " + how + ")", panel, Sentences.ARGUMENT, () -> panel.wire(16, how));
        }
    }

    private static void wireBeforeHow(Due due) {
        Real panel = new Real();
        due.refused("wire(17, 3)", panel, Sentences.NO_SUCH, () -> panel.wire(17, 3));
        due.refused("wire(-1, -1)", panel, Sentences.NO_SUCH, () -> panel.wire(-1, -1));
    }

    private static void refusedWire(Due due) {
        Real panel = wires(wires(isolators(8), BROKEN, 3, 5), SHORT, 12);
        String before = seen(panel);
        due.is("before", before, "RRR-------------");
        for (int wire : new int[] {3, 5, 12}) {
            due.refused("wire(" + wire + ", 3)", panel, Sentences.ARGUMENT, () -> panel.wire(wire, 3));
        }
        due.is("behind", seen(panel), before);
    }

    private static void reachedNow(Due due) {
        Real panel = new Real();
        panel.wire(0, SHORT);
        due.is("place(0) with a short, before a poll", panel.place(0), 0);
        panel.poll();
        panel.wire(0, WHOLE);
        due.is("place(0) mended, before a poll", panel.place(0), 1);
    }

    private static Real button(int place) {
        Real panel = Panels.atLevel2();
        Panels.press(panel, place, 0);
        return panel;
    }

    private static void alarmAlone(Due due) {
        Real panel = button(15);
        due.is("place(15) before the poll", panel.place(15), 48 + 1);
        panel.poll();
        due.is("place(15) in alarm", panel.place(15), 48 + 2 + 1);
        due.is("place(14)", panel.place(14), 1);
    }

    private static void faultAlone(Due due) {
        Real panel = button(0);
        panel.wire(0, SHORT);
        Panels.poll(panel, 2);
        due.is("place(0) at fault", panel.place(0), 48 + 4);
        panel.wire(0, WHOLE);
        due.is("place(0) at fault and reached", panel.place(0), 48 + 4 + 1);
    }

    private static void offAlone(Due due) {
        Real panel = Panels.atLevel2();
        panel.off(false, 0, true);
        panel.off(false, 15, true);
        due.is("place(0)", panel.place(0), 8 + 1);
        due.is("place(15)", panel.place(15), 8 + 1);
        due.is("place(1)", panel.place(1), 1);
    }

    private static void kinds(Due due) {
        for (int kind = 0; kind <= 4; kind++) {
            Real panel = Panels.atLevel2();
            due.is("place(0) at first", panel.place(0), 1);
            panel.fit(0, kind, 3, 100f);
            due.is("place(0) of kind " + kind, panel.place(0), 16 * kind + 1);
        }
    }

    private static void allAndNone(Due due) {
        Real panel = button(7);
        panel.poll();
        panel.wire(7, BROKEN);
        panel.wire(8, BROKEN);
        Panels.poll(panel, 2);
        panel.off(false, 7, true);
        due.is("place(7) unreached", panel.place(7), 48 + 8 + 4 + 2);
        panel.wire(8, WHOLE);
        due.is("place(7)", panel.place(7), 48 + 8 + 4 + 2 + 1);
        due.is("an empty place that is not reached", wires(new Real(), SHORT, 16).place(15), 0);
    }

    private static void noSuchPlace(Due due) {
        Real panel = Panels.atLevel2();
        for (int place : NO_PLACES) {
            due.refused("place(" + place + ")", panel, Sentences.NO_SUCH, () -> panel.place(place));
        }
    }
}
