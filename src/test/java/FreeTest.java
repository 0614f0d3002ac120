/** Promises 25 to 29: what is free. */
public final class FreeTest {
    private static final Check CHECK = new Check();

    public static void main(String[] args) {
        promise25FreePort();
        promise26FreeStrand();
        promise26FreeStrandOfSeveralTrunks();
        promise26FreeStrandOfPanelsOfTwoSizes();
        promise26FreeStrandThrows();
        promise27Used();
        promise28CanCarryOut();
        promise29CableLength();
        CHECK.finish();
    }

    private static void promise25FreePort() {
        CableBook book = room();
        CHECK.due("25 behind the strands", book.freePort(0), 3);
        CHECK.due("25 the first port", book.freePort(1), 4);
        CHECK.due("25 the last port", book.freePort(2), 11);
        book.setBroken(0, 0, true);
        CHECK.due("25 a broken strand is one", book.freePort(0), 3);
        book.plug(3, 4, 1);
        CHECK.due("25 none", book.freePort(0), -1);
        CHECK.due("25 behind a cable", book.freePort(1), 5);
        book.pull(3);
        CHECK.due("25 pulled", book.freePort(0), 3);
        book.addTrunk(5, 11, 1, 1);
        book.plug(4, 6, 1);
        CHECK.due("25 a cable, a strand, a cable", book.freePort(1), 7);
        CHECK.due("25 a full panel before others", book.freePort(2), -1);
        book.plug(3, 7, 2);
        CHECK.due("25 none in panel 0, with strands and a cable", book.freePort(0), -1);
        CHECK.due("25 none in panel 1", book.freePort(1), -1);
        CHECK.thrown("25 panel -1", Check.INDEX, FreeTest::room, b -> b.freePort(-1));
        CHECK.thrown("25 panel 3", Check.INDEX, FreeTest::room, b -> b.freePort(3));
        CHECK.thrown("25 no panels", Check.INDEX, CableBook::new, b -> b.freePort(0));
    }

    private static void promise26FreeStrand() {
        CableBook book = room();
        CHECK.due("26 the first strand", book.freeStrand(0, 2), 0);
        CHECK.due("26 its end at the first panel", book.freeStrand(2, 0), 8);
        CHECK.due("26 panels without a trunk", book.freeStrand(0, 1), -1);
        CHECK.due("26 a panel and itself", book.freeStrand(0, 0), -1);
        book.setBroken(0, 0, true);
        CHECK.due("26 not a broken one", book.freeStrand(0, 2), 1);
        CHECK.due("26 not a broken one backwards", book.freeStrand(2, 0), 9);
        book.plug(1, 3, 1);
        CHECK.due("26 no cable at the near end", book.freeStrand(0, 2), 2);
        CHECK.due("26 no cable at the far end", book.freeStrand(2, 0), 10);
        book.plug(10, 11, 1);
        CHECK.due("26 none", book.freeStrand(0, 2), -1);
        CHECK.due("26 none backwards", book.freeStrand(2, 0), -1);
        book.setBroken(0, 0, false);
        CHECK.due("26 mended", book.freeStrand(0, 2), 0);
        book.pull(1);
        book.plug(0, 3, 1);
        CHECK.due("26 pulled", book.freeStrand(0, 2), 1);
    }

    /** Of the trunks between panels 0 and 1, the first one is lower at one end, the second at the other. */
    private static void promise26FreeStrandOfSeveralTrunks() {
        CableBook book = new CableBook();
        book.addPanel(0, 5);
        book.addPanel(1, 5);
        book.addPanel(1, 5);
        book.addTrunk(3, 5, 2, 9);
        book.addTrunk(7, 1, 2, 9);
        book.addTrunk(0, 10, 1, 9);
        CHECK.due("26 the lowest port at the first", book.freeStrand(0, 1), 1);
        CHECK.due("26 the lowest port at the second", book.freeStrand(1, 0), 5);
        CHECK.due("26 to another panel", book.freeStrand(0, 2), 0);
        CHECK.due("26 not by way of a third", book.freeStrand(1, 2), -1);
        book.plug(1, 8, 1);
        CHECK.due("26 both strands of a trunk taken", book.freeStrand(0, 1), 3);
    }

    private static void promise26FreeStrandOfPanelsOfTwoSizes() {
        CableBook book = new CableBook();
        book.addPanel(0, 12);
        book.addPanel(0, 1);
        book.addPanel(0, 3);
        book.addTrunk(11, 12, 1, 9);
        book.addTrunk(15, 10, 1, 9);
        CHECK.due("26 the last port of a panel", book.freeStrand(0, 1), 11);
        CHECK.due("26 the only port of a panel", book.freeStrand(1, 0), 12);
        CHECK.due("26 the last but one", book.freeStrand(0, 2), 10);
        CHECK.due("26 the last port of the last panel", book.freeStrand(2, 0), 15);
        CHECK.due("26 two small panels", book.freeStrand(1, 2), -1);
    }

    private static void promise26FreeStrandThrows() {
        CHECK.thrown("26 panel -1", Check.INDEX, FreeTest::room, b -> b.freeStrand(-1, 0));
        CHECK.thrown("26 panel 3", Check.INDEX, FreeTest::room, b -> b.freeStrand(3, 0));
        CHECK.thrown("26 other -1", Check.INDEX, FreeTest::room, b -> b.freeStrand(0, -1));
        CHECK.thrown("26 other 3", Check.INDEX, FreeTest::room, b -> b.freeStrand(0, 3));
    }

    private static void promise27Used() {
        CableBook book = room();
        CHECK.due("27 none", book.used(0), 0);
        book.plug(0, 3, 1);
        CHECK.due("27 one end only", book.used(0), 0);
        book.plug(8, 11, 1);
        CHECK.due("27 both ends", book.used(0), 1);
        book.setBroken(0, 0, true);
        CHECK.due("27 broken ones included", book.used(0), 1);
        book.plug(9, 4, 1);
        CHECK.due("27 the far end only", book.used(0), 1);
        book.plug(2, 10, 1);
        CHECK.due("27 one cable at both ends", book.used(0), 2);
        book.plug(1, 5, 1);
        CHECK.due("27 all", book.used(0), 3);
        book.pull(8);
        CHECK.due("27 pulled", book.used(0), 2);
        book.addTrunk(5, 11, 1, 1);
        CHECK.due("27 another trunk", book.used(1), 0);
        book.plug(11, 6, 1);
        CHECK.due("27 another trunk, both ends", book.used(1), 1);
        CHECK.due("27 the first one still", book.used(0), 2);
        CHECK.thrown("27 trunk -1", Check.INDEX, FreeTest::room, b -> b.used(-1));
        CHECK.thrown("27 trunk 1", Check.INDEX, FreeTest::room, b -> b.used(1));
        CHECK.thrown("27 no trunks", Check.INDEX, CableBook::new, b -> b.used(0));
    }

    private static void promise28CanCarryOut() {
        duePossible("28 without moves", true);
        duePossible("28 to a free port", true, 0, 2);
        duePossible("28 no cable at a", false, 2, 3);
        duePossible("28 b taken", false, 0, 4);
        duePossible("28 b taken by its other end", false, 0, 1);
        duePossible("28 two change places", true, 0, 4, 4, 0);
        duePossible("28 three in a circle", true, 0, 4, 4, 8, 8, 0);
        duePossible("28 a cable turned round", true, 0, 1, 1, 0);
        duePossible("28 a chain", true, 0, 4, 4, 8, 8, 2);
        duePossible("28 a chain to a port that stays taken", false, 0, 4, 4, 8);
        duePossible("28 a chain told backwards", true, 8, 2, 4, 8, 0, 4);
        duePossible("28 a twice", false, 0, 2, 0, 3);
        duePossible("28 b twice", false, 0, 2, 4, 2);
        duePossible("28 both ends to one port", false, 0, 2, 1, 2);
        duePossible("28 b is free and the last b taken", false, 0, 2, 4, 9);
        duePossible("28 both ends, one into the other's place", true, 0, 2, 1, 0);
        CableBook book = room();
        book.plug(0, 1, 1);
        book.addMove(0, 3);
        CHECK.due("28 possible", book.canCarryOut(), true);
        book.plug(3, 4, 1);
        CHECK.due("28 not any more: b taken", book.canCarryOut(), false);
        book.pull(4);
        CHECK.due("28 again: b free", book.canCarryOut(), true);
        book.pull(1);
        CHECK.due("28 not any more: a free", book.canCarryOut(), false);
        CHECK.due("28 drops nothing", book.dropPlan(), 1);
    }

    private static void duePossible(String what, boolean possible, int... moves) {
        CableBook book = room();
        book.plug(0, 1, 1);
        book.plug(4, 5, 2);
        book.plug(8, 9, 3);
        for (int i = 0; i + 1 < moves.length; i += 2) {
            book.addMove(moves[i], moves[i + 1]);
        }
        CHECK.due(what, book.canCarryOut(), possible);
        CHECK.due(what + ", asked again", book.canCarryOut(), possible);
        CHECK.due(what + ": nothing is moved", book.byCable(0), 1);
        String outcome = possible ? "nothing" : "IllegalStateException";
        CHECK.due(what + ", carried out", Check.outcome(book::carryOut), outcome);
    }

    private static void promise29CableLength() {
        CableBook book = room();
        CHECK.due("29 none", book.cableLength(), 0);
        book.plug(0, 1, 1);
        CHECK.due("29 one panel", book.cableLength(), 1);
        book.plug(11, 3, 1);
        CHECK.due("29 one rack", book.cableLength(), 3);
        book.plug(2, 4, 1);
        CHECK.due("29 racks 1 and 8", book.cableLength(), 3 + 17);
        book.addMove(2, 5);
        book.carryOut();
        CHECK.due("29 moved into one panel", book.cableLength(), 3 + 1);
        book.pull(3);
        CHECK.due("29 pulled", book.cableLength(), 2);
        book.setBroken(0, 0, true);
        CHECK.due("29 trunks are no cables", book.cableLength(), 2);
    }

    /** Four ports in each of the racks 1, 8 and 1; strands 0 = 8, 1 = 9 and 2 = 10. */
    private static CableBook room() {
        CableBook book = new CableBook();
        book.addPanel(1, 4);
        book.addPanel(8, 4);
        book.addPanel(1, 4);
        book.addTrunk(0, 8, 3, 100);
        return book;
    }
}
