/** The edges of promises 17 to 24: each test says which sentence of the document it holds. */
public final class TracesEdgesTest {
    private static final Check CHECK = new Check();
    private static final int RING_LENGTH = 72 * 500 + 66 * 1 + 6 * 2;

    public static void main(String[] args) {
        endWithoutHops();
        endAtPortWithoutNextThing();
        endAtBrokenStrand();
        endOfRing();
        endNoSuchPort();
        hopsNoneAndOne();
        hopsByTurns();
        hopsOfRing();
        hopsOfLongestTrace();
        hopsNoSuchPort();
        hopToFirstAndLast();
        hopToOfRing();
        hopToNoSuchPort();
        hopToNoSuchHop();
        hopToOfTraceWithoutHops();
        lengthOfNoHops();
        lengthOfOneHop();
        lengthOfRing();
        lengthNoSuchPort();
        ringComesBack();
        ringOfTwoPorts();
        ringOfAllPorts();
        ringNot();
        ringNoSuchPort();
        joinedToItself();
        joinedOnOneLine();
        joinedNotOverBrokenStrand();
        joinedOnRing();
        joinedNoSuchPort();
        linesNone();
        linesOfPortsAlone();
        linesOfAllPorts();
        linesAfterOtherTraces();
        askingChangesNothing();
        CHECK.finish();
    }

    /** Promise 17, Terms: "The end of a trace is the port where it ends; without hops it is the port itself." */
    private static void endWithoutHops() {
        CableBook alone = Rooms.allPanels();
        CHECK.due("17 the first port, by cable", alone.end(0, true), 0);
        CHECK.due("17 the first port, by strand", alone.end(0, false), 0);
        CHECK.due("17 the last port, by cable", alone.end(143, true), 143);
        CHECK.due("17 the last port, by strand", alone.end(143, false), 143);
        CHECK.due("17 a strand, but no cable to begin with", Rooms.oneTrunk().end(1, true), 1);
        CHECK.due("17 a cable, but no strand to begin with", Rooms.pairFullOfCables().end(1, false), 1);
        CHECK.due("17 a broken strand to begin with", Rooms.brokenTrunk().end(1, false), 1);
    }

    /** Promise 17, Terms: "It ends at a port without the next thing (a broken strand is none)". */
    private static void endAtPortWithoutNextThing() {
        CHECK.due("17 behind one strand", Rooms.oneTrunk().end(1, false), 5);
        CHECK.due("17 behind one cable", Rooms.pairFullOfCables().end(1, true), 13);
        CableBook row = row();
        CHECK.due("17 cable, strand, cable", row.end(0, true), 4);
        CHECK.due("17 backwards", row.end(4, true), 0);
        CHECK.due("17 from a cable's second end, by strand", row.end(1, false), 4);
        CHECK.due("17 from a cable's second end, by cable", row.end(1, true), 0);
        CableBook twoStrands = Rooms.oneTrunk();
        twoStrands.plug(5, 6, 1);
        CHECK.due("17 strand, cable, strand", twoStrands.end(1, false), 2);
        CHECK.due("17 strand, cable, strand, backwards", twoStrands.end(2, false), 1);
    }

    /** Promise 17, Terms: "It ends at a port without the next thing (a broken strand is none)"; promise 4. */
    private static void endAtBrokenStrand() {
        CableBook book = row();
        book.setBroken(0, 0, true);
        CHECK.due("17 ends before it", book.end(0, true), 1);
        CHECK.due("17 ends before it from the other side", book.end(4, true), 5);
        CHECK.due("17 can't begin with it", book.end(5, false), 5);
        book.setBroken(0, 0, false);
        CHECK.due("17 mended", book.end(0, true), 4);
        book.setBroken(0, 1, true);
        CHECK.due("17 the strand beside it is broken", book.end(0, true), 4);
    }

    /** Promise 17, Terms: "or with the hop that comes back to the port where it began." */
    private static void endOfRing() {
        CableBook all = Rooms.ringOfAll();
        for (int port = 0; port < Rooms.ALL_PORTS; port++) {
            CHECK.due("17 of a full ring, by cable, " + port, all.end(port, true), port);
            CHECK.due("17 of a full ring, by strand, " + port, all.end(port, false), port);
        }
        CHECK.due("17 of two ports, by cable", ringOfTwo().end(1, true), 1);
        CHECK.due("17 of two ports, by strand", ringOfTwo().end(1, false), 1);
    }

    /** Promise 17: "Throws `IndexOutOfBoundsException` if there is no such port". */
    private static void endNoSuchPort() {
        for (int port : Check.outside(0, 11)) {
            CHECK.thrown("17 by cable " + port, Check.INDEX, TracesEdgesTest::row, b -> b.end(port, true));
            CHECK.thrown("17 by strand " + port, Check.INDEX, TracesEdgesTest::row, b -> b.end(port, false));
        }
        CHECK.thrown("17 no ports at all", Check.INDEX, CableBook::new, b -> b.end(0, true));
    }

    /** Promise 18, Terms: "Each cable and each strand that is gone along is a hop.": none, and one. */
    private static void hopsNoneAndOne() {
        CHECK.due("18 a port alone, by cable", Rooms.pair().hops(0, true), 0);
        CHECK.due("18 a port alone, by strand", Rooms.pair().hops(23, false), 0);
        CHECK.due("18 a strand, by cable", Rooms.pairWithTrunk().hops(0, true), 0);
        CHECK.due("18 a strand, by strand", Rooms.pairWithTrunk().hops(0, false), 1);
        CHECK.due("18 a cable, by cable", Rooms.pairFullOfCables().hops(23, true), 1);
        CHECK.due("18 a cable, by strand", Rooms.pairFullOfCables().hops(23, false), 0);
        CHECK.due("18 a broken strand", Rooms.brokenTrunk().hops(6, false), 0);
    }

    /**
     * Promise 18, Terms: "from a port along its cable to the other end, then from that port along its strand
     * to the other end, then along a cable again, and so on; or it begins with the strand."
     */
    private static void hopsByTurns() {
        CHECK.due("18 from an end", row().hops(0, true), 3);
        CHECK.due("18 from the other end", row().hops(4, true), 3);
        CHECK.due("18 from within, by strand", row().hops(1, false), 2);
        CHECK.due("18 from within, by cable", row().hops(1, true), 1);
    }

    /** Promise 18, Terms: "or with the hop that comes back to the port where it began.": that hop counts. */
    private static void hopsOfRing() {
        CHECK.due("18 of two ports, by cable", ringOfTwo().hops(0, true), 2);
        CHECK.due("18 of two ports, by strand", ringOfTwo().hops(0, false), 2);
        CHECK.due("18 of all ports, by cable", Rooms.ringOfAll().hops(0, true), 144);
        CHECK.due("18 of all ports, by strand", Rooms.ringOfAll().hops(143, false), 144);
    }

    /** Promise 18: "Returns how many hops a trace has.": with all 144 ports in a row it has 143. */
    private static void hopsOfLongestTrace() {
        CableBook book = Rooms.ringOfAll();
        book.pull(0);
        CHECK.due("18 the cable was that of 131", book.byCable(131), -1);
        CHECK.due("18 from one end", book.hops(0, false), 143);
        CHECK.due("18 from the other end", book.hops(131, false), 143);
        CHECK.due("17 from one end", book.end(0, false), 131);
        CHECK.due("17 from the other end", book.end(131, false), 0);
        CHECK.due("18 from one end, by cable", book.hops(0, true), 0);
        CHECK.due("19 the last hop", book.hopTo(0, false, 142), 131);
        CHECK.due("20 the whole row", book.lengthOf(0, false), RING_LENGTH - 2);
        CHECK.due("21 no ring", book.isRing(70), false);
        CHECK.due("22 its ends", book.areJoined(131, 0), true);
        CHECK.due("23 its ends", book.areJoinedBySearch(131, 0), true);
        CHECK.due("24 one line", book.lines(), 1);
    }

    /** Promise 18: "Throws `IndexOutOfBoundsException` if there is no such port". */
    private static void hopsNoSuchPort() {
        for (int port : Check.outside(0, 11)) {
            CHECK.thrown("18 by cable " + port, Check.INDEX, TracesEdgesTest::row, b -> b.hops(port, true));
            CHECK.thrown("18 by strand " + port, Check.INDEX, TracesEdgesTest::row, b -> b.hops(port, false));
        }
        CHECK.thrown("18 no ports at all", Check.INDEX, CableBook::new, b -> b.hops(0, false));
    }

    /** Promise 19: "`hop`: from 0": the first and the last one. */
    private static void hopToFirstAndLast() {
        CHECK.due("19 the first", row().hopTo(0, true, 0), 1);
        CHECK.due("19 the last", row().hopTo(0, true, 2), 4);
        CHECK.due("19 the first backwards", row().hopTo(4, true, 0), 5);
        CHECK.due("19 the last backwards", row().hopTo(4, true, 2), 0);
        CHECK.due("19 the only one", Rooms.oneTrunk().hopTo(1, false, 0), 5);
    }

    /** Promise 19, Terms: "or with the hop that comes back to the port where it began." */
    private static void hopToOfRing() {
        CHECK.due("19 of two ports, there", ringOfTwo().hopTo(0, true, 0), 1);
        CHECK.due("19 of two ports, and back", ringOfTwo().hopTo(0, true, 1), 0);
        CHECK.thrown("19 of two ports, not once more", Check.INDEX, TracesEdgesTest::ringOfTwo,
                b -> b.hopTo(0, true, 2));
        CableBook all = Rooms.ringOfAll();
        CHECK.due("19 the first of 144", all.hopTo(0, false, 0), 12);
        CHECK.due("19 the second of 144", all.hopTo(0, false, 1), 13);
        CHECK.due("19 the last but one of 144", all.hopTo(0, false, 142), 131);
        CHECK.due("19 the last of 144", all.hopTo(0, false, 143), 0);
        CHECK.due("19 the last of 144, the other way round", all.hopTo(0, true, 143), 0);
        CHECK.due("19 no hop 144", Check.outcome(() -> all.hopTo(0, false, 144)), "IndexOutOfBoundsException");
    }

    /**
     * Promise 19: "Throws `IndexOutOfBoundsException` if there is no such port, or the trace has no such hop":
     * port.
     */
    private static void hopToNoSuchPort() {
        for (int port : Check.outside(0, 11)) {
            CHECK.thrown("19 port " + port, Check.INDEX, TracesEdgesTest::row, b -> b.hopTo(port, true, 0));
        }
        CHECK.thrown("19 no ports at all", Check.INDEX, CableBook::new, b -> b.hopTo(0, true, 0));
    }

    /**
     * Promise 19: "Throws `IndexOutOfBoundsException` if there is no such port, or the trace has no such hop":
     * hop.
     */
    private static void hopToNoSuchHop() {
        for (int hop : Check.outside(0, 2)) {
            CHECK.thrown("19 hop " + hop, Check.INDEX, TracesEdgesTest::row, b -> b.hopTo(0, true, hop));
        }
        CableBook book = row();
        CHECK.due("19 a longer trace before", book.hopTo(0, true, 2), 4);
        CHECK.due("19 leaves none of its hops",
                Check.outcome(() -> book.hopTo(1, true, 1)), "IndexOutOfBoundsException");
    }

    /**
     * Promise 19: "Throws `IndexOutOfBoundsException` if there is no such port, or the trace has no such hop":
     * none at all.
     */
    private static void hopToOfTraceWithoutHops() {
        CHECK.thrown("19 by cable", Check.INDEX, Rooms::oneTrunk, b -> b.hopTo(1, true, 0));
        CHECK.thrown("19 by strand", Check.INDEX, Rooms::oneTrunk, b -> b.hopTo(0, false, 0));
        CHECK.thrown("19 by a broken strand", Check.INDEX, Rooms::brokenTrunk, b -> b.hopTo(1, false, 0));
    }

    /** Promise 20: "those of the cables and trunks that it goes along, together.": none. */
    private static void lengthOfNoHops() {
        CHECK.due("20 a port alone", Rooms.pair().lengthOf(0, true) + Rooms.pair().lengthOf(0, false), 0);
        CHECK.due("20 a strand, by cable", Rooms.pairWithTrunk().lengthOf(0, true), 0);
        CHECK.due("20 a cable, by strand", Rooms.pairFullOfCables().lengthOf(0, false), 0);
        CHECK.due("20 a broken strand", Rooms.brokenTrunk().lengthOf(1, false), 0);
    }

    /**
     * Promise 20: "those of the cables and trunks that it goes along, together.": one, the shortest and the
     * longest.
     */
    private static void lengthOfOneHop() {
        CHECK.due("20 the shortest trunk", Rooms.tenTrunks().lengthOf(11, false), 1);
        CHECK.due("20 a trunk's length is that of each strand", Rooms.pairWithTrunk().lengthOf(11, false), 500);
        CHECK.due("20 the longest cable", Rooms.pairFullOfCables().lengthOf(23, true), 21);
        CableBook book = Rooms.pair();
        book.plug(11, 0, 1);
        CHECK.due("20 the shortest cable", book.lengthOf(0, true), 1);
    }

    /** Promise 20, Terms: "or with the hop that comes back to the port where it began.": once round, no more. */
    private static void lengthOfRing() {
        CHECK.due("20 of two ports, by cable", ringOfTwo().lengthOf(0, true), 21 + 500);
        CHECK.due("20 of two ports, by strand", ringOfTwo().lengthOf(0, false), 21 + 500);
        CHECK.due("20 of all ports, by cable", Rooms.ringOfAll().lengthOf(0, true), RING_LENGTH);
        CHECK.due("20 of all ports, by strand", Rooms.ringOfAll().lengthOf(143, false), RING_LENGTH);
    }

    /** Promise 20: "Throws `IndexOutOfBoundsException` if there is no such port". */
    private static void lengthNoSuchPort() {
        for (int port : Check.outside(0, 11)) {
            CHECK.thrown("20 by cable " + port, Check.INDEX, TracesEdgesTest::row, b -> b.lengthOf(port, true));
            CHECK.thrown("20 by strand " + port, Check.INDEX, TracesEdgesTest::row, b -> b.lengthOf(port, false));
        }
        CHECK.thrown("20 no ports at all", Check.INDEX, CableBook::new, b -> b.lengthOf(0, true));
    }

    /** Promise 21, Terms: "If a trace comes back to the port where it began, the line is a ring." */
    private static void ringComesBack() {
        CableBook book = ringOfFour();
        for (int port : new int[] {1, 2, 5, 6}) {
            CHECK.due("21 of four, at " + port, book.isRing(port), true);
        }
        CHECK.due("21 the ports beside it", book.isRing(0) || book.isRing(3) || book.isRing(4), false);
        book.setBroken(0, 1, true);
        CHECK.due("21 a strand is broken", book.isRing(1) || book.isRing(2) || book.isRing(5), false);
        book.setBroken(0, 1, false);
        CHECK.due("21 mended", book.isRing(6), true);
        book.pull(5);
        CHECK.due("21 a cable is pulled", book.isRing(1) || book.isRing(5) || book.isRing(6), false);
    }

    /** Promise 21, Terms: "If a trace comes back to the port where it began, the line is a ring.": the smallest. */
    private static void ringOfTwoPorts() {
        CHECK.due("21 of two, at one", ringOfTwo().isRing(0), true);
        CHECK.due("21 of two, at the other", ringOfTwo().isRing(1), true);
        CableBook broken = ringOfTwo();
        broken.setBroken(0, 0, true);
        CHECK.due("21 of two, broken", broken.isRing(0) || broken.isRing(1), false);
    }

    /** Promise 21, Terms: "If a trace comes back to the port where it began, the line is a ring.": the largest. */
    private static void ringOfAllPorts() {
        CableBook book = Rooms.ringOfAll();
        for (int port = 0; port < Rooms.ALL_PORTS; port++) {
            CHECK.due("21 of 144, at " + port, book.isRing(port), true);
        }
        book.setBroken(5, 11, true);
        CHECK.due("21 its last strand is broken", book.isRing(0) || book.isRing(131) || book.isRing(143), false);
    }

    /**
     * Promise 21, Terms: "without hops it is the port itself": such a trace has not come back, and a row does not.
     */
    private static void ringNot() {
        CHECK.due("21 a port alone", Rooms.pair().isRing(0), false);
        CHECK.due("21 a strand alone", Rooms.oneTrunk().isRing(1), false);
        CHECK.due("21 a broken strand alone", Rooms.brokenTrunk().isRing(1), false);
        CHECK.due("21 a cable alone", Rooms.pairFullOfCables().isRing(1), false);
        CHECK.due("21 the ends of a row", row().isRing(0) || row().isRing(4), false);
        CHECK.due("21 within a row", row().isRing(1) || row().isRing(5), false);
    }

    /** Promise 21: "Throws `IndexOutOfBoundsException` if there is no such port". */
    private static void ringNoSuchPort() {
        for (int port : Check.outside(0, 11)) {
            CHECK.thrown("21 port " + port, Check.INDEX, TracesEdgesTest::ringOfFour, b -> b.isRing(port));
        }
        CHECK.thrown("21 no ports at all", Check.INDEX, CableBook::new, b -> b.isRing(0));
    }

    /** Promises 22 and 23: "`b`: another one, or the same"; Terms: "are its line, the port itself included." */
    private static void joinedToItself() {
        CableBook alone = Rooms.allPanels();
        dueJoined("the first port alone", alone, 0, 0, true);
        dueJoined("the last port alone", alone, 143, 143, true);
        dueJoined("an end of a cable", Rooms.pairFullOfCables(), 23, 23, true);
        dueJoined("an end of a strand", Rooms.pairWithTrunk(), 0, 0, true);
        dueJoined("an end of a broken strand", Rooms.brokenTrunk(), 1, 1, true);
        dueJoined("a port of a ring", ringOfTwo(), 1, 1, true);
    }

    /**
     * Promises 22 and 23, Terms: "The ports of the two traces of a port, one that begins with its cable and one
     * that begins with its strand, are its line".
     */
    private static void joinedOnOneLine() {
        int[] line = {0, 1, 5, 4};
        for (int a : line) {
            CableBook book = row();
            for (int b : line) {
                dueJoined("of one line", book, a, b, true);
            }
            dueJoined("the strand beside it", book, a, 2, false);
            dueJoined("that strand's other end", book, a, 6, false);
            dueJoined("a port alone", book, a, 3, false);
            dueJoined("the last port, alone", book, 11, a, false);
        }
        dueJoined("two ports alone", row(), 8, 11, false);
        dueJoined("two strands of one trunk", row(), 2, 5, false);
    }

    /**
     * Promises 22 and 23: "all ports joined by a cable, or by a strand that is not broken, with one that was
     * found are found, until no more are."
     */
    private static void joinedNotOverBrokenStrand() {
        CableBook book = row();
        book.setBroken(0, 0, true);
        dueJoined("the ends of the broken strand", book, 1, 5, false);
        dueJoined("the ends of the row", book, 0, 4, false);
        dueJoined("on this side of it", book, 0, 1, true);
        dueJoined("on the other side of it", book, 4, 5, true);
        CableBook ring = ringOfFour();
        ring.setBroken(0, 0, true);
        dueJoined("the other way round a broken ring", ring, 1, 5, true);
        CableBook two = ringOfTwo();
        two.setBroken(0, 0, true);
        dueJoined("by the cable beside a broken strand", two, 0, 1, true);
        two.pull(0);
        dueJoined("by a broken strand alone", two, 0, 1, false);
    }

    /** Promises 22 and 23: "until no more are.": each port of the largest ring is found from its first one. */
    private static void joinedOnRing() {
        CableBook book = Rooms.ringOfAll();
        for (int port = 0; port < Rooms.ALL_PORTS; port++) {
            dueJoined("of 144", book, 0, port, true);
        }
        CableBook back = Rooms.ringOfAll();
        for (int port = 0; port < Rooms.ALL_PORTS; port++) {
            dueJoined("of 144", back, port, 143, true);
        }
    }

    /** Promises 22 and 23: "Throws `IndexOutOfBoundsException` if there is no such port". */
    private static void joinedNoSuchPort() {
        for (int port : Check.outside(0, 11)) {
            CHECK.thrown("22 a " + port, Check.INDEX, TracesEdgesTest::row, b -> b.areJoined(port, 0));
            CHECK.thrown("22 b " + port, Check.INDEX, TracesEdgesTest::row, b -> b.areJoined(11, port));
            CHECK.thrown("22 both " + port, Check.INDEX, TracesEdgesTest::row, b -> b.areJoined(port, port));
            CHECK.thrown("23 a " + port, Check.INDEX, TracesEdgesTest::row, b -> b.areJoinedBySearch(port, 0));
            CHECK.thrown("23 b " + port, Check.INDEX, TracesEdgesTest::row, b -> b.areJoinedBySearch(11, port));
            CHECK.thrown("23 both " + port, Check.INDEX, TracesEdgesTest::row, b -> b.areJoinedBySearch(port, port));
        }
        CHECK.thrown("22 no ports at all", Check.INDEX, CableBook::new, b -> b.areJoined(0, 0));
        CHECK.thrown("23 no ports at all", Check.INDEX, CableBook::new, b -> b.areJoinedBySearch(0, 0));
    }

    /** Promise 24: "Returns how many lines there are": none. */
    private static void linesNone() {
        CHECK.due("24 a new object", new CableBook().lines(), 0);
    }

    /** Promise 24: "a port without a cable and without a strand that is not broken is a line, too." */
    private static void linesOfPortsAlone() {
        CableBook one = Rooms.panels(1, 1);
        CHECK.due("24 one port", one.lines(), 1);
        CableBook all = Rooms.allPanels();
        CHECK.due("24 144 ports", all.lines(), 144);
        all.plug(0, 143, 1);
        CHECK.due("24 a cable makes two ports one line", all.lines(), 143);
        all.addTrunk(0, 143, 1, 1);
        CHECK.due("24 a strand beside it makes it a ring", all.lines(), 143);
        all.addTrunk(1, 13, 2, 1);
        CHECK.due("24 two strands", all.lines(), 141);
        all.setBroken(1, 1, true);
        CHECK.due("24 both ends of a broken strand", all.lines(), 142);
        all.pull(0);
        CHECK.due("24 a strand where the cable was", all.lines(), 142);
        all.setBroken(0, 0, true);
        CHECK.due("24 broken, too", all.lines(), 143);
    }

    /** Promise 24: "Returns how many lines there are": all ports in one, and then in more and more. */
    private static void linesOfAllPorts() {
        CableBook book = Rooms.ringOfAll();
        CHECK.due("24 a ring of 144", book.lines(), 1);
        book.pull(0);
        CHECK.due("24 a row of 144", book.lines(), 1);
        book.pull(143);
        CHECK.due("24 two rows", book.lines(), 2);
        book.setBroken(0, 0, true);
        CHECK.due("24 three, one of them a port alone", book.lines(), 3);
        CHECK.due("24 it is the first", book.hops(0, true) + book.hops(0, false), 0);
    }

    /** Promise 24: "Returns how many lines there are": as they are now, not as they were traced before. */
    private static void linesAfterOtherTraces() {
        CableBook book = Rooms.panels(1, 4);
        book.plug(1, 2, 1);
        CHECK.due("24 a trace", book.hopTo(1, true, 0), 2);
        book.pull(1);
        CHECK.due("24 its cable was pulled", book.lines(), 4);
        book.plug(2, 3, 1);
        CHECK.due("23 a search", book.areJoinedBySearch(3, 2), true);
        CHECK.due("24 a cable", book.lines(), 3);
        book.pull(3);
        CHECK.due("24 it was pulled, too", book.lines(), 4);
        CHECK.due("23 nothing is found that was found before", book.areJoinedBySearch(3, 2), false);
        CHECK.due("22 nor traced", book.areJoined(3, 2), false);
    }

    /** Promises 17 to 24, Terms: "nothing from here on changes anything". */
    private static void askingChangesNothing() {
        CHECK.unchanged("17 to 24", TracesEdgesTest::planned, b -> {
            for (int port : new int[] {0, 1, 2, 5, 11}) {
                b.end(port, true);
                b.hops(port, false);
                b.lengthOf(port, true);
                b.isRing(port);
                b.areJoined(port, 5);
                b.areJoinedBySearch(5, port);
            }
            b.hopTo(0, true, 2);
            b.lines();
        });
        CableBook book = row();
        for (int i = 0; i < 3; i++) {
            CHECK.due("22 asked again", book.areJoined(0, 4), true);
            CHECK.due("23 asked again", book.areJoinedBySearch(3, 4), false);
            CHECK.due("24 asked again", book.lines(), 8);
            CHECK.due("18 asked again", book.hops(0, true), 3);
        }
    }

    private static void dueJoined(String what, CableBook book, int a, int b, boolean joined) {
        String ports = what + ", " + a + " and " + b;
        CHECK.due("22 " + ports, book.areJoined(a, b), joined);
        CHECK.due("23 " + ports, book.areJoinedBySearch(a, b), joined);
    }

    /** The line 0 - 1 = 5 - 4 (- a cable, = a strand), the strand 2 = 6, and 3, 7, 8 to 11 alone. */
    private static CableBook row() {
        CableBook book = Rooms.oneTrunk();
        book.plug(0, 1, 1);
        book.plug(4, 5, 2);
        return book;
    }

    /** 1 - 2 = 6 - 5 = 1. */
    private static CableBook ringOfFour() {
        CableBook book = Rooms.oneTrunk();
        book.plug(1, 2, 1);
        book.plug(5, 6, 2);
        return book;
    }

    /** A strand of length 500 and a cable of length 21 between the same two ports. */
    private static CableBook ringOfTwo() {
        CableBook book = new CableBook();
        book.addPanel(9, 1);
        book.addPanel(0, 1);
        book.addTrunk(0, 1, 1, 500);
        book.plug(0, 1, 1);
        return book;
    }

    private static CableBook planned() {
        CableBook book = row();
        book.setBroken(0, 1, true);
        book.addMove(0, 3);
        return book;
    }
}
