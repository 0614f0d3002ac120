/** The edges of promises 1 to 4: each test says which sentence of the document it holds. */
public final class RoomEdgesTest {
    private static final Check CHECK = new Check();

    public static void main(String[] args) {
        newObjectHasNoPanels();
        answersUntilCall512();
        panelRackLeastAndMost();
        panelPortsLeastAndMost();
        panelReturnsFirstPort();
        panelRackOutOfRange();
        panelPortsOutOfRange();
        panelThirteenth();
        panelFirstNamedException();
        panelRefusedTakesNoNumber();
        trunkStrandsLeastAndMost();
        trunkLengthLeastAndMost();
        trunkStrandsJoinFromFirstToLast();
        trunkReturnsNumber();
        trunkNoSuchPort();
        trunkStrandsOutOfRange();
        trunkLengthOutOfRange();
        trunkOfOnePanel();
        trunkBeyondPanel();
        trunkEleventh();
        trunkPortHasStrand();
        trunkPortHasBrokenStrand();
        trunkFirstNamedException();
        trunkRefusedTakesNoNumber();
        brokenStrandIsThere();
        brokenFirstAndLastTrunk();
        brokenFirstAndLastStrand();
        brokenReturnsWhetherItWas();
        brokenNoSuchTrunk();
        brokenNoSuchStrand();
        CHECK.finish();
    }

    /** Promise 1: "No panels." */
    private static void newObjectHasNoPanels() {
        CableBook book = new CableBook();
        CHECK.due("1 ports", book.ports(), 0);
        CHECK.due("1 no port 0", Check.outcome(() -> book.panelOf(0)), "IndexOutOfBoundsException");
        CHECK.due("1 no panel 0", Check.outcome(() -> book.freePort(0)), "IndexOutOfBoundsException");
        CHECK.due("1 no trunk 0", Check.outcome(() -> book.used(0)), "IndexOutOfBoundsException");
        CHECK.due("1 the first panel is panel 0", book.panelOf(book.addPanel(9, 1)), 0);
        CHECK.due("1 a second object has none of it", new CableBook().ports(), 0);
    }

    /** Promise 1, "What it is": "An object is used for at most 512 calls after it has been made". */
    private static void answersUntilCall512() {
        CableBook book = Rooms.pair();
        int calls = 2;
        for (; calls + 3 <= 511; calls += 3) {
            CHECK.due("1 plug, call " + calls, book.plug(0, 23, 9), 21);
            CHECK.due("1 refused, call " + calls, Check.outcome(() -> book.plug(0, 1, 1)), "IllegalStateException");
            CHECK.due("1 pull, call " + calls, book.pull(23), 0);
        }
        for (; calls < 510; calls++) {
            CHECK.due("1 cables, call " + calls, book.cables(), 0);
        }
        CHECK.due("1 call 511", book.plug(11, 12, 1), 21);
        CHECK.due("1 call 512", book.cableLength(), 21);
    }

    /** Promise 2: "`rack`: 0 to 9"; Terms: "A panel is in a rack, 0 to 9, and has 1 to 12 ports." */
    private static void panelRackLeastAndMost() {
        CableBook book = new CableBook();
        CHECK.due("2 rack 0", book.addPanel(0, 1), 0);
        CHECK.due("2 rack 9", book.addPanel(9, 1), 1);
        CHECK.due("2 are nine racks apart", book.plug(0, 1, 1), 21);
    }

    /**
     * Promise 2: "`ports`: 1 to 12: how many ports it has"; Terms: "A panel is in a rack, 0 to 9, and has
     * 1 to 12 ports."
     */
    private static void panelPortsLeastAndMost() {
        CableBook one = new CableBook();
        CHECK.due("2 one port", one.addPanel(3, 1), 0);
        CHECK.due("2 is all", one.ports(), 1);
        CHECK.due("2 no second one", Check.outcome(() -> one.panelOf(1)), "IndexOutOfBoundsException");
        CableBook twelve = new CableBook();
        CHECK.due("2 twelve ports", twelve.addPanel(3, 12), 0);
        CHECK.due("2 are all", twelve.ports(), 12);
        CHECK.due("2 the twelfth", twelve.panelOf(11), 0);
        CHECK.due("2 no thirteenth", Check.outcome(() -> twelve.panelOf(12)), "IndexOutOfBoundsException");
    }

    /**
     * Promise 2: "Returns the number of its first port."; Terms: "All ports have numbers from 0 on,
     * those of each panel following one another in the order in which panels are added."
     */
    private static void panelReturnsFirstPort() {
        CableBook book = new CableBook();
        for (int i = 0; i < 12; i++) {
            CHECK.due("2 first port of full panel " + i, book.addPanel(0, 12), 12 * i);
        }
        CableBook small = new CableBook();
        for (int i = 0; i < 12; i++) {
            CHECK.due("2 first port of small panel " + i, small.addPanel(i % 10, 1), i);
        }
        CableBook mixed = new CableBook();
        CHECK.due("2 of the first", mixed.addPanel(9, 12), 0);
        CHECK.due("2 behind twelve ports", mixed.addPanel(0, 1), 12);
        CHECK.due("2 behind one port", mixed.addPanel(0, 12), 13);
    }

    /** Promise 2: "Throws `IllegalArgumentException` if rack or ports is out of range": rack. */
    private static void panelRackOutOfRange() {
        for (int rack : Check.outside(0, 9)) {
            CHECK.thrown("2 rack " + rack, Check.ARGUMENT, () -> Rooms.panels(2, 2), b -> b.addPanel(rack, 1));
        }
    }

    /** Promise 2: "Throws `IllegalArgumentException` if rack or ports is out of range": ports. */
    private static void panelPortsOutOfRange() {
        for (int ports : Check.outside(1, 12)) {
            CHECK.thrown("2 ports " + ports, Check.ARGUMENT, () -> Rooms.panels(2, 2), b -> b.addPanel(9, ports));
        }
    }

    /**
     * Promise 2: "Throws `IllegalStateException` if there are 12 panels"; Terms: "Panels are numbered
     * from 0 on; there are at most 12."
     */
    private static void panelThirteenth() {
        CableBook book = Rooms.panels(11, 3);
        CHECK.due("2 a twelfth panel", book.addPanel(9, 12), 33);
        CHECK.due("2 has number 11", book.panelOf(44), 11);
        CHECK.due("2 a panel 11", book.freePort(11), 33);
        CHECK.thrown("2 a thirteenth", Check.STATE, Rooms::twelvePanels, b -> b.addPanel(0, 1));
        CHECK.thrown("2 a thirteenth of twelve ports", Check.STATE, Rooms::twelvePanels, b -> b.addPanel(9, 12));
        CableBook all = Rooms.allPanels();
        CHECK.due("2 a port 144", Check.outcome(() -> all.addPanel(0, 1)), "IllegalStateException");
        CHECK.due("2 none of it is there", all.ports(), 144);
    }

    /**
     * Promise 2, Terms: "If several exceptions apply, the one that is named first in the throws
     * clause is thrown."
     */
    private static void panelFirstNamedException() {
        CHECK.thrown("2 full, rack wrong", Check.ARGUMENT, Rooms::twelvePanels, b -> b.addPanel(10, 1));
        CHECK.thrown("2 full, ports wrong", Check.ARGUMENT, Rooms::twelvePanels, b -> b.addPanel(0, 13));
        CHECK.thrown("2 full, both wrong", Check.ARGUMENT, Rooms::twelvePanels, b -> b.addPanel(-1, 0));
    }

    /** Promise 2, Terms: "A call that throws an exception changes nothing." */
    private static void panelRefusedTakesNoNumber() {
        CableBook book = Rooms.panels(1, 2);
        Check.outcome(() -> book.addPanel(10, 5));
        Check.outcome(() -> book.addPanel(5, 13));
        CHECK.due("2 the next port", book.addPanel(5, 5), 2);
        CHECK.due("2 the next panel", book.panelOf(2), 1);
    }

    /**
     * Promise 3: "`strands`: 1 to 12"; Terms: "A trunk joins two panels behind the wall, has a length, 1 to
     * 500, and a number of strands, 1 to 12".
     */
    private static void trunkStrandsLeastAndMost() {
        CableBook one = Rooms.pair();
        CHECK.due("3 one strand", one.addTrunk(0, 12, 1, 7), 0);
        CHECK.due("3 is there", one.byStrand(0), 12);
        CHECK.due("3 no second one", one.byStrand(1), -1);
        CHECK.due("3 nor at the other panel", one.byStrand(13), -1);
        CableBook twelve = Rooms.pair();
        CHECK.due("3 twelve strands", twelve.addTrunk(0, 12, 12, 7), 0);
        CHECK.due("3 the first", twelve.byStrand(12), 0);
        CHECK.due("3 the twelfth", twelve.byStrand(11), 23);
    }

    /**
     * Promise 3: "`length`: 1 to 500"; Terms: "A trunk joins two panels behind the wall, has a length, 1 to
     * 500, and a number of strands, 1 to 12".
     */
    private static void trunkLengthLeastAndMost() {
        CableBook book = Rooms.pair();
        CHECK.due("3 length 1", book.addTrunk(0, 12, 1, 1), 0);
        CHECK.due("3 goes along 1", book.lengthOf(0, false), 1);
        CHECK.due("3 length 500", book.addTrunk(1, 13, 1, 500), 1);
        CHECK.due("3 goes along 500", book.lengthOf(13, false), 500);
    }

    /**
     * Promise 3, Terms: "its strand s joins the port "first" and s of one panel with the port "first"
     * and s of the other one (each panel has its own first port)."
     */
    private static void trunkStrandsJoinFromFirstToLast() {
        CableBook book = Rooms.pair();
        book.addTrunk(15, 3, 9, 1);
        CHECK.due("3 before the first of one", book.byStrand(14), -1);
        CHECK.due("3 before the first of the other", book.byStrand(2), -1);
        for (int strand = 0; strand < 9; strand++) {
            CHECK.due("3 strand " + strand, book.byStrand(15 + strand), 3 + strand);
            CHECK.due("3 strand " + strand + " backwards", book.byStrand(3 + strand), 15 + strand);
        }
        CableBook shifted = Rooms.pair();
        shifted.addTrunk(0, 21, 3, 1);
        CHECK.due("3 the first port to a late one", shifted.byStrand(0), 21);
        CHECK.due("3 the third port to the last one", shifted.byStrand(2), 23);
        CHECK.due("3 behind the last", shifted.byStrand(3), -1);
    }

    /** Promise 3: "Returns its number."; Terms: "Trunks are numbered from 0 on; there are at most 10." */
    private static void trunkReturnsNumber() {
        CableBook book = Rooms.pair();
        for (int i = 0; i < 10; i++) {
            CHECK.due("3 trunk " + i, book.addTrunk(11 - i, 12 + i, 1, 500), i);
        }
    }

    /** Promise 3: "Throws `IndexOutOfBoundsException` if there is no such port". */
    private static void trunkNoSuchPort() {
        for (int port : Check.outside(0, 7)) {
            CHECK.thrown("3 from " + port, Check.INDEX, () -> Rooms.panels(2, 4), b -> b.addTrunk(port, 4, 1, 1));
            CHECK.thrown("3 to " + port, Check.INDEX, () -> Rooms.panels(2, 4), b -> b.addTrunk(0, port, 1, 1));
        }
        CHECK.thrown("3 no ports at all", Check.INDEX, CableBook::new, b -> b.addTrunk(0, 1, 1, 1));
        CHECK.due("3 the first and the last port", Rooms.panels(2, 4).addTrunk(7, 0, 1, 1), 0);
    }

    /**
     * Promise 3: "Throws `IllegalArgumentException` if strands or length is out of range, both ports are
     * of the same panel, or one of the panels has not so many ports from there on": strands.
     */
    private static void trunkStrandsOutOfRange() {
        for (int strands : Check.outside(1, 12)) {
            CHECK.thrown("3 strands " + strands, Check.ARGUMENT, Rooms::pair, b -> b.addTrunk(0, 12, strands, 1));
            CHECK.thrown("3 strands " + strands + " from the last port", Check.ARGUMENT, Rooms::pair,
                    b -> b.addTrunk(23, 11, strands, 1));
        }
    }

    /**
     * Promise 3: "Throws `IllegalArgumentException` if strands or length is out of range, both ports are
     * of the same panel, or one of the panels has not so many ports from there on": length.
     */
    private static void trunkLengthOutOfRange() {
        for (int length : Check.outside(1, 500)) {
            CHECK.thrown("3 length " + length, Check.ARGUMENT, Rooms::pair, b -> b.addTrunk(0, 12, 1, length));
        }
    }

    /**
     * Promise 3: "Throws `IllegalArgumentException` if strands or length is out of range, both ports are
     * of the same panel, or one of the panels has not so many ports from there on": the same panel; "`to`: the
     * first port at another panel".
     */
    private static void trunkOfOnePanel() {
        CHECK.thrown("3 the same port", Check.ARGUMENT, Rooms::pair, b -> b.addTrunk(0, 0, 1, 1));
        CHECK.thrown("3 the ends of a panel", Check.ARGUMENT, Rooms::pair, b -> b.addTrunk(12, 23, 1, 1));
        CHECK.thrown("3 the ends of a panel backwards", Check.ARGUMENT, Rooms::pair, b -> b.addTrunk(11, 0, 1, 1));
        CHECK.due("3 neighbours of two panels", Rooms.pair().addTrunk(11, 12, 1, 1), 0);
        CableBook oneRack = new CableBook();
        oneRack.addPanel(5, 1);
        oneRack.addPanel(5, 1);
        CHECK.due("3 two panels of one rack", oneRack.addTrunk(0, 1, 1, 1), 0);
    }

    /**
     * Promise 3: "Throws `IllegalArgumentException` if strands or length is out of range, both ports are
     * of the same panel, or one of the panels has not so many ports from there on": not so many ports.
     */
    private static void trunkBeyondPanel() {
        CHECK.thrown("3 from, one too many", Check.ARGUMENT, () -> Rooms.panels(3, 4), b -> b.addTrunk(1, 8, 4, 1));
        CHECK.thrown("3 to, one too many", Check.ARGUMENT, () -> Rooms.panels(3, 4), b -> b.addTrunk(8, 1, 4, 1));
        CHECK.thrown("3 two from the last port", Check.ARGUMENT, () -> Rooms.panels(3, 4), b -> b.addTrunk(3, 8, 2, 1));
        CHECK.thrown("3 two to the last of all", Check.ARGUMENT, () -> Rooms.panels(3, 4),
                b -> b.addTrunk(0, 11, 2, 1));
        CHECK.thrown("3 five of four", Check.ARGUMENT, () -> Rooms.panels(3, 4), b -> b.addTrunk(0, 4, 5, 1));
        CHECK.thrown("3 twelve from the second port", Check.ARGUMENT, Rooms::pair, b -> b.addTrunk(1, 12, 12, 1));
        CHECK.due("3 just so many", Rooms.panels(3, 4).addTrunk(1, 9, 3, 1), 0);
        CHECK.due("3 all of them", Rooms.panels(3, 4).addTrunk(8, 0, 4, 1), 0);
        CHECK.due("3 the last ports", Rooms.panels(3, 4).addTrunk(3, 11, 1, 1), 0);
    }

    /**
     * Promise 3: "Throws `IllegalStateException` if there are 10 trunks, or one of the ports has a strand": ten.
     */
    private static void trunkEleventh() {
        CHECK.due("3 ten are there", Rooms.tenTrunks().trunks(), 10);
        CHECK.thrown("3 an eleventh", Check.STATE, Rooms::tenTrunks, b -> b.addTrunk(10, 21, 1, 1));
        CHECK.thrown("3 an eleventh backwards", Check.STATE, Rooms::tenTrunks, b -> b.addTrunk(21, 10, 1, 500));
    }

    /**
     * Promise 3: "Throws `IllegalStateException` if there are 10 trunks, or one of the ports has a strand":
     * a strand; Terms: "A port has at most one strand."
     */
    private static void trunkPortHasStrand() {
        CHECK.thrown("3 first of from", Check.STATE, Rooms::oneTrunk, b -> b.addTrunk(2, 8, 2, 1));
        CHECK.thrown("3 last of from", Check.STATE, Rooms::oneTrunk, b -> b.addTrunk(0, 8, 2, 1));
        CHECK.thrown("3 first of to", Check.STATE, Rooms::oneTrunk, b -> b.addTrunk(8, 6, 2, 1));
        CHECK.thrown("3 last of to", Check.STATE, Rooms::oneTrunk, b -> b.addTrunk(8, 4, 2, 1));
        CHECK.thrown("3 in the middle", Check.STATE, Rooms::oneTrunk, b -> b.addTrunk(8, 0, 4, 1));
        CHECK.thrown("3 the same trunk again", Check.STATE, Rooms::oneTrunk, b -> b.addTrunk(1, 5, 2, 30));
        CHECK.thrown("3 and the other way round", Check.STATE, Rooms::oneTrunk, b -> b.addTrunk(5, 1, 2, 30));
        CableBook book = Rooms.oneTrunk();
        CHECK.due("3 just before it", book.addTrunk(0, 8, 1, 1), 1);
        CHECK.due("3 just behind it", book.addTrunk(9, 7, 1, 1), 2);
    }

    /**
     * Promise 3: "Throws `IllegalStateException` if there are 10 trunks, or one of the ports has a strand";
     * promise 4: "A broken strand is there, but nothing goes along it."
     */
    private static void trunkPortHasBrokenStrand() {
        CHECK.thrown("3 broken at from", Check.STATE, Rooms::brokenTrunk, b -> b.addTrunk(1, 8, 1, 1));
        CHECK.thrown("3 broken at to", Check.STATE, Rooms::brokenTrunk, b -> b.addTrunk(8, 6, 1, 1));
    }

    /**
     * Promise 3, Terms: "If several exceptions apply, the one that is named first in the throws
     * clause is thrown."
     */
    private static void trunkFirstNamedException() {
        CHECK.thrown("3 all apply", Check.INDEX, Rooms::tenTrunks, b -> b.addTrunk(22, 22, 0, 0));
        CHECK.thrown("3 to is no port, strands wrong", Check.INDEX, Rooms::oneTrunk, b -> b.addTrunk(1, -1, 13, 1));
        CHECK.thrown("3 from is no port, length wrong", Check.INDEX, Rooms::oneTrunk, b -> b.addTrunk(12, 1, 1, 501));
        CHECK.thrown("3 no port, has a strand", Check.INDEX, Rooms::oneTrunk, b -> b.addTrunk(1, 12, 1, 1));
        CHECK.thrown("3 strands wrong, full", Check.ARGUMENT, Rooms::tenTrunks, b -> b.addTrunk(10, 21, 0, 1));
        CHECK.thrown("3 length wrong, full", Check.ARGUMENT, Rooms::tenTrunks, b -> b.addTrunk(10, 21, 1, 0));
        CHECK.thrown("3 same panel, full", Check.ARGUMENT, Rooms::tenTrunks, b -> b.addTrunk(10, 10, 1, 1));
        CHECK.thrown("3 beyond the panel, full", Check.ARGUMENT, Rooms::tenTrunks, b -> b.addTrunk(10, 21, 2, 1));
        CHECK.thrown("3 length wrong, has a strand", Check.ARGUMENT, Rooms::oneTrunk, b -> b.addTrunk(1, 8, 1, 501));
        CHECK.thrown("3 same panel, has a strand", Check.ARGUMENT, Rooms::oneTrunk, b -> b.addTrunk(1, 1, 1, 1));
        CHECK.thrown("3 beyond the panel, has a strand", Check.ARGUMENT, Rooms::oneTrunk, b -> b.addTrunk(8, 6, 3, 1));
    }

    /** Promise 3, Terms: "A call that throws an exception changes nothing." */
    private static void trunkRefusedTakesNoNumber() {
        CableBook book = Rooms.oneTrunk();
        Check.outcome(() -> book.addTrunk(0, 8, 2, 5));
        Check.outcome(() -> book.addTrunk(8, 4, 2, 5));
        CHECK.due("3 no strand before the one that was there", book.byStrand(0) + book.byStrand(4), -2);
        CHECK.due("3 nor at the third panel", book.byStrand(8) + book.byStrand(9), -2);
        CHECK.due("3 the next number", book.addTrunk(0, 4, 1, 5), 1);
    }

    /** Promise 4: "A broken strand is there, but nothing goes along it." */
    private static void brokenStrandIsThere() {
        CableBook book = Rooms.oneTrunk();
        book.setBroken(0, 1, true);
        CHECK.due("4 is there", book.byStrand(2), 6);
        CHECK.due("4 is there backwards", book.byStrand(6), 2);
        CHECK.due("4 nothing goes along", book.hops(2, false), 0);
        CHECK.due("4 nor backwards", book.hops(6, false), 0);
        CHECK.due("4 no port of it is free", book.freePort(1), 4);
        CHECK.due("4 the strand beside it", book.hops(1, false), 1);
        book.setBroken(0, 1, false);
        CHECK.due("4 mended", book.hops(2, false), 1);
        CHECK.due("4 mended backwards", book.hops(6, false), 1);
    }

    /** Promise 4: "`trunk`: its number"; Terms: "Trunks are numbered from 0 on; there are at most 10." */
    private static void brokenFirstAndLastTrunk() {
        CableBook book = Rooms.tenTrunks();
        CHECK.due("4 trunk 0", book.setBroken(0, 0, true), false);
        CHECK.due("4 its strand", book.hops(11, false), 0);
        CHECK.due("4 trunk 9", book.setBroken(9, 0, true), false);
        CHECK.due("4 its strand", book.hops(9, false), 0);
        CHECK.due("4 the trunks between", book.hops(1, false) + book.hops(8, false), 2);
    }

    /** Promise 4: "`strand`: from 0". */
    private static void brokenFirstAndLastStrand() {
        CableBook book = Rooms.pairWithTrunk();
        CHECK.due("4 strand 0", book.setBroken(0, 0, true), false);
        CHECK.due("4 strand 11", book.setBroken(0, 11, true), false);
        CHECK.due("4 at the first ports", book.hops(0, false) + book.hops(12, false), 0);
        CHECK.due("4 at the last ports", book.hops(11, false) + book.hops(23, false), 0);
        CHECK.due("4 between them", book.hops(1, false) + book.hops(10, false), 2);
    }

    /** Promise 4: "Returns whether it was." */
    private static void brokenReturnsWhetherItWas() {
        CableBook book = Rooms.oneTrunk();
        CHECK.due("4 a new one is mended", book.setBroken(0, 0, false), false);
        CHECK.due("4 is broken", book.setBroken(0, 0, true), false);
        CHECK.due("4 is broken again", book.setBroken(0, 0, true), true);
        CHECK.due("4 is mended", book.setBroken(0, 0, false), true);
        CHECK.due("4 is mended again", book.setBroken(0, 0, false), false);
        CHECK.due("4 and the next strand was not", book.setBroken(0, 1, true), false);
    }

    /** Promise 4: "Throws `IndexOutOfBoundsException` if there is no such trunk or strand": trunk. */
    private static void brokenNoSuchTrunk() {
        for (int trunk : Check.outside(0, 9)) {
            CHECK.thrown("4 trunk " + trunk, Check.INDEX, Rooms::tenTrunks, b -> b.setBroken(trunk, 0, true));
        }
        CHECK.thrown("4 trunk 1 of one", Check.INDEX, Rooms::brokenTrunk, b -> b.setBroken(1, 0, false));
        CHECK.thrown("4 no trunks", Check.INDEX, Rooms::pair, b -> b.setBroken(0, 0, true));
        CHECK.thrown("4 a new object", Check.INDEX, CableBook::new, b -> b.setBroken(0, 0, false));
    }

    /** Promise 4: "Throws `IndexOutOfBoundsException` if there is no such trunk or strand": strand. */
    private static void brokenNoSuchStrand() {
        for (int strand : Check.outside(0, 1)) {
            CHECK.thrown("4 break strand " + strand, Check.INDEX, Rooms::oneTrunk, b -> b.setBroken(0, strand, true));
            CHECK.thrown("4 mend strand " + strand, Check.INDEX, Rooms::brokenTrunk,
                    b -> b.setBroken(0, strand, false));
        }
        CHECK.thrown("4 strand 12 of 12", Check.INDEX, Rooms::pairWithTrunk, b -> b.setBroken(0, 12, true));
        CHECK.thrown("4 strand 1 of the last trunk", Check.INDEX, Rooms::tenTrunks, b -> b.setBroken(9, 1, true));
        CHECK.thrown("4 a strand that only another trunk has", Check.INDEX, RoomEdgesTest::twoTrunks,
                b -> b.setBroken(1, 1, true));
    }

    /** A trunk of two strands, 1 = 5 and 2 = 6, and one of one, 0 = 8. */
    private static CableBook twoTrunks() {
        CableBook book = Rooms.oneTrunk();
        book.addTrunk(0, 8, 1, 1);
        return book;
    }
}
