/** Promises 1 to 4: a new object, and the room. */
public final class RoomTest {
    private static final Check CHECK = new Check();

    public static void main(String[] args) {
        promise1NewObject();
        promise2AddPanel();
        promise2AddPanelThrows();
        promise3AddTrunk();
        promise3AddTrunkOutOfRange();
        promise3AddTrunkDoesNotFit();
        promise3AddTrunkFull();
        promise3AddTrunkOrderOfExceptions();
        promise4SetBroken();
        promise4SetBrokenThrows();
        CHECK.finish();
    }

    private static void promise1NewObject() {
        CableBook book = new CableBook();
        CHECK.due("1 ports", book.ports(), 0);
        CHECK.due("1 trunks", book.trunks(), 0);
        CHECK.due("1 cables", book.cables(), 0);
        CHECK.due("1 lines", book.lines(), 0);
        CHECK.due("1 cableLength", book.cableLength(), 0);
        CHECK.due("1 dropPlan", book.dropPlan(), 0);
        CHECK.thrown("1 no panel", Check.INDEX, CableBook::new, b -> b.freePort(0));
        CHECK.thrown("1 no port", Check.INDEX, CableBook::new, b -> b.panelOf(0));
        CHECK.thrown("1 no trunk", Check.INDEX, CableBook::new, b -> b.used(0));
        CHECK.due("1 the first panel has port 0", book.addPanel(0, 1), 0);
        CHECK.due("1 another object knows nothing of it", new CableBook().ports(), 0);
    }

    private static void promise2AddPanel() {
        CableBook book = new CableBook();
        CHECK.due("2 least rack, most ports", book.addPanel(0, 12), 0);
        CHECK.due("2 highest rack, least ports", book.addPanel(9, 1), 12);
        CHECK.due("2 a rack again", book.addPanel(0, 3), 13);
        CHECK.due("2 ports together", book.ports(), 16);
        CHECK.due("2 last port of the first", book.panelOf(11), 0);
        CHECK.due("2 only port of the second", book.panelOf(12), 1);
        CHECK.due("2 first port of the third", book.panelOf(13), 2);
        CHECK.due("2 last port of the third", book.panelOf(15), 2);
        CHECK.due("2 racks 0 and 9", book.plug(0, 12, 1), 21);
        CHECK.due("2 rack 0 twice", book.plug(1, 13, 1), 2);
        CableBook full = panels(12, 12);
        CHECK.due("2 twelve panels of twelve", full.ports(), 144);
        CHECK.due("2 the last port", full.panelOf(143), 11);
    }

    private static void promise2AddPanelThrows() {
        CHECK.thrown("2 rack -1", Check.ARGUMENT, () -> panels(2, 2), b -> b.addPanel(-1, 1));
        CHECK.thrown("2 rack 10", Check.ARGUMENT, () -> panels(2, 2), b -> b.addPanel(10, 1));
        CHECK.thrown("2 no ports", Check.ARGUMENT, () -> panels(2, 2), b -> b.addPanel(0, 0));
        CHECK.thrown("2 13 ports", Check.ARGUMENT, () -> panels(2, 2), b -> b.addPanel(0, 13));
        CHECK.thrown("2 least int", Check.ARGUMENT, () -> panels(2, 2),
                b -> b.addPanel(Integer.MIN_VALUE, Integer.MIN_VALUE));
        CHECK.thrown("2 greatest int", Check.ARGUMENT, () -> panels(2, 2),
                b -> b.addPanel(0, Integer.MAX_VALUE));
        CHECK.thrown("2 a 13th panel", Check.STATE, () -> panels(12, 1), b -> b.addPanel(0, 1));
        CHECK.thrown("2 a 13th panel, wrong rack", Check.ARGUMENT, () -> panels(12, 1), b -> b.addPanel(10, 1));
        CHECK.thrown("2 a 13th panel, wrong ports", Check.ARGUMENT, () -> panels(12, 1), b -> b.addPanel(0, 0));
    }

    private static void promise3AddTrunk() {
        CableBook book = panels(3, 12);
        CHECK.due("3 most strands, greatest length", book.addTrunk(12, 0, 12, 500), 0);
        CHECK.due("3 first strand", book.byStrand(12), 0);
        CHECK.due("3 first strand backwards", book.byStrand(0), 12);
        CHECK.due("3 last strand", book.byStrand(11), 23);
        CHECK.due("3 last strand backwards", book.byStrand(23), 11);
        CHECK.due("3 length 500", book.lengthOf(5, false), 500);
        book.addPanel(2, 5);
        CHECK.due("3 least strands, least length", book.addTrunk(35, 40, 1, 1), 1);
        CHECK.due("3 the last ports", book.byStrand(40), 35);
        CHECK.due("3 a port beside it", book.byStrand(34), -1);
        CHECK.due("3 length 1", book.lengthOf(40, false), 1);
        CHECK.due("3 other first ports", book.addTrunk(25, 37, 3, 70), 2);
        CHECK.due("3 its first strand", book.byStrand(25), 37);
        CHECK.due("3 its last strand", book.byStrand(39), 27);
        CHECK.due("3 not before it", book.byStrand(24), -1);
        CHECK.due("3 not behind it", book.byStrand(28), -1);
        CHECK.due("3 trunks", book.trunks(), 3);
        CHECK.due("3 a new strand is not broken", book.end(25, false), 37);
    }

    private static void promise3AddTrunkOutOfRange() {
        CHECK.thrown("3 from -1", Check.INDEX, () -> panels(2, 4), b -> b.addTrunk(-1, 4, 1, 1));
        CHECK.thrown("3 to -1", Check.INDEX, () -> panels(2, 4), b -> b.addTrunk(0, -1, 1, 1));
        CHECK.thrown("3 from 8", Check.INDEX, () -> panels(2, 4), b -> b.addTrunk(8, 0, 1, 1));
        CHECK.thrown("3 to 8", Check.INDEX, () -> panels(2, 4), b -> b.addTrunk(0, 8, 1, 1));
        CHECK.thrown("3 no strands", Check.ARGUMENT, () -> panels(2, 4), b -> b.addTrunk(0, 4, 0, 1));
        CHECK.thrown("3 strands -1", Check.ARGUMENT, () -> panels(2, 4), b -> b.addTrunk(0, 4, -1, 1));
        CHECK.thrown("3 13 strands", Check.ARGUMENT, () -> panels(2, 12), b -> b.addTrunk(0, 12, 13, 1));
        CHECK.thrown("3 most strands of int", Check.ARGUMENT, () -> panels(2, 4),
                b -> b.addTrunk(1, 4, Integer.MAX_VALUE, 1));
        CHECK.thrown("3 length 0", Check.ARGUMENT, () -> panels(2, 4), b -> b.addTrunk(0, 4, 1, 0));
        CHECK.thrown("3 length 501", Check.ARGUMENT, () -> panels(2, 4), b -> b.addTrunk(0, 4, 1, 501));
    }

    private static void promise3AddTrunkDoesNotFit() {
        CHECK.thrown("3 same port", Check.ARGUMENT, () -> panels(2, 4), b -> b.addTrunk(0, 0, 1, 1));
        CHECK.thrown("3 same panel", Check.ARGUMENT, () -> panels(2, 4), b -> b.addTrunk(4, 6, 1, 1));
        CHECK.thrown("3 from too far on", Check.ARGUMENT, () -> panels(3, 4), b -> b.addTrunk(2, 8, 3, 1));
        CHECK.thrown("3 to too far on", Check.ARGUMENT, () -> panels(3, 4), b -> b.addTrunk(8, 2, 3, 1));
        CHECK.thrown("3 beyond the last port", Check.ARGUMENT, () -> panels(3, 4), b -> b.addTrunk(0, 9, 4, 1));
        CableBook book = panels(3, 4);
        CHECK.due("3 just fits", book.addTrunk(2, 10, 2, 1), 0);
        CHECK.due("3 same rack, other panel", rackOfTwo().addTrunk(0, 1, 1, 1), 0);
    }

    private static CableBook rackOfTwo() {
        CableBook book = new CableBook();
        book.addPanel(4, 1);
        book.addPanel(4, 1);
        return book;
    }

    private static void promise3AddTrunkFull() {
        CHECK.due("3 ten trunks", tenTrunks().trunks(), 10);
        CHECK.thrown("3 an eleventh", Check.STATE, RoomTest::tenTrunks, b -> b.addTrunk(10, 21, 1, 1));
        CHECK.thrown("3 from has a strand", Check.STATE, RoomTest::oneTrunk, b -> b.addTrunk(1, 8, 1, 1));
        CHECK.thrown("3 to has a strand", Check.STATE, RoomTest::oneTrunk, b -> b.addTrunk(8, 1, 1, 1));
        CHECK.thrown("3 a later port of from", Check.STATE, RoomTest::oneTrunk, b -> b.addTrunk(0, 8, 2, 1));
        CHECK.thrown("3 a later port of to", Check.STATE, RoomTest::oneTrunk, b -> b.addTrunk(8, 4, 3, 1));
        CHECK.thrown("3 has a broken strand", Check.STATE, RoomTest::brokenTrunk, b -> b.addTrunk(1, 8, 1, 1));
        CableBook book = oneTrunk();
        CHECK.due("3 before and behind it", book.addTrunk(0, 8, 1, 1), 1);
        CHECK.due("3 the same panels again", book.addTrunk(3, 4, 1, 1), 2);
        book.plug(9, 7, 1);
        CHECK.due("3 a cable is no hindrance", book.addTrunk(9, 7, 1, 1), 3);
    }

    private static void promise3AddTrunkOrderOfExceptions() {
        CHECK.thrown("3 no port, strands wrong", Check.INDEX, RoomTest::tenTrunks, b -> b.addTrunk(0, 22, 0, 0));
        CHECK.thrown("3 no port, same port", Check.INDEX, () -> panels(2, 4), b -> b.addTrunk(-1, -1, 1, 1));
        CHECK.thrown("3 full, strands wrong", Check.ARGUMENT, RoomTest::tenTrunks, b -> b.addTrunk(0, 11, 0, 1));
        CHECK.thrown("3 full, length wrong", Check.ARGUMENT, RoomTest::tenTrunks, b -> b.addTrunk(0, 11, 1, 501));
        CHECK.thrown("3 full, same panel", Check.ARGUMENT, RoomTest::tenTrunks, b -> b.addTrunk(0, 1, 1, 1));
        CHECK.thrown("3 full, too far on", Check.ARGUMENT, RoomTest::tenTrunks, b -> b.addTrunk(0, 21, 2, 1));
        CHECK.thrown("3 has a strand, same panel", Check.ARGUMENT, RoomTest::oneTrunk, b -> b.addTrunk(1, 2, 1, 1));
        CHECK.thrown("3 has a strand, too far on", Check.ARGUMENT, RoomTest::oneTrunk, b -> b.addTrunk(1, 10, 3, 1));
    }

    private static void promise4SetBroken() {
        CableBook book = oneTrunk();
        CHECK.due("4 break", book.setBroken(0, 1, true), false);
        CHECK.due("4 nothing goes along it", book.end(2, false), 2);
        CHECK.due("4 nor backwards", book.end(6, false), 6);
        CHECK.due("4 it is there", book.byStrand(2), 6);
        CHECK.due("4 it is there backwards", book.byStrand(6), 2);
        CHECK.due("4 the strand beside it", book.end(1, false), 5);
        CHECK.due("4 break again", book.setBroken(0, 1, true), true);
        CHECK.due("4 still broken", book.end(6, false), 6);
        CHECK.due("4 mend", book.setBroken(0, 1, false), true);
        CHECK.due("4 goes along", book.end(2, false), 6);
        CHECK.due("4 goes along backwards", book.end(6, false), 2);
        CHECK.due("4 mend again", book.setBroken(0, 1, false), false);
        CHECK.due("4 the first strand", book.setBroken(0, 0, true), false);
        CHECK.due("4 is broken", book.end(5, false), 5);
        book.addTrunk(0, 8, 1, 7);
        CHECK.due("4 a later trunk", book.setBroken(1, 0, true), false);
        CHECK.due("4 is broken", book.end(8, false), 8);
        CHECK.due("4 one trunk only", book.end(2, false), 6);
    }

    private static void promise4SetBrokenThrows() {
        CHECK.thrown("4 trunk -1", Check.INDEX, RoomTest::oneTrunk, b -> b.setBroken(-1, 0, true));
        CHECK.thrown("4 trunk 1", Check.INDEX, RoomTest::oneTrunk, b -> b.setBroken(1, 0, true));
        CHECK.thrown("4 strand -1", Check.INDEX, RoomTest::oneTrunk, b -> b.setBroken(0, -1, true));
        CHECK.thrown("4 strand 2", Check.INDEX, RoomTest::oneTrunk, b -> b.setBroken(0, 2, true));
        CHECK.thrown("4 mends not", Check.INDEX, RoomTest::brokenTrunk, b -> b.setBroken(0, 2, false));
        CHECK.thrown("4 no trunks", Check.INDEX, () -> panels(2, 4), b -> b.setBroken(0, 0, false));
        CHECK.thrown("4 greatest int", Check.INDEX, RoomTest::oneTrunk, b -> b.setBroken(0, Integer.MAX_VALUE, true));
    }

    /** Panels of the racks 0, 1, .. 9, 0, 1. */
    private static CableBook panels(int count, int ports) {
        CableBook book = new CableBook();
        for (int i = 0; i < count; i++) {
            book.addPanel(i % 10, ports);
        }
        return book;
    }

    /** Ports 1 and 2 of the first panel with 5 and 6 of the second; a third panel has 8 to 11. */
    private static CableBook oneTrunk() {
        CableBook book = panels(3, 4);
        book.addTrunk(1, 5, 2, 30);
        return book;
    }

    private static CableBook brokenTrunk() {
        CableBook book = oneTrunk();
        book.setBroken(0, 0, true);
        return book;
    }

    /** Two panels of 11 ports, all but the last ones joined strand by strand. */
    private static CableBook tenTrunks() {
        CableBook book = panels(2, 11);
        for (int i = 0; i < 10; i++) {
            book.addTrunk(i, 11 + i, 1, 1 + i);
        }
        return book;
    }
}
