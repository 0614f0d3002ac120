/** The edges of promises 25 to 27 and 29: each test says which sentence of the document it holds. */
public final class FreeEdgesTest {
    private static final Check CHECK = new Check();

    public static void main(String[] args) {
        freePortLowest();
        freePortNeitherCableNorStrand();
        freePortNone();
        freePortFirstAndLastPanel();
        freePortNoSuchPanel();
        freeStrandNotBroken();
        freeStrandNoCableAtEitherEnd();
        freeStrandEndAtFirstPanel();
        freeStrandLowestOfSeveral();
        freeStrandNone();
        freeStrandOfOnePanel();
        freeStrandOfNeighbours();
        freeStrandFirstAndLastPort();
        freeStrandNoSuchPanel();
        usedBothEnds();
        usedNoneToAll();
        usedBrokenIncluded();
        usedFirstAndLastTrunk();
        usedNoSuchTrunk();
        cableLengthNone();
        cableLengthShortestAndLongest();
        cableLengthOfAll();
        askingChangesNothing();
        CHECK.finish();
    }

    /**
     * Promise 25: "Returns the lowest port of a panel that has neither a cable nor a strand, broken or not.":
     * lowest.
     */
    private static void freePortLowest() {
        CHECK.due("25 all are free", Rooms.pair().freePort(0), 0);
        CHECK.due("25 all are free, the other panel", Rooms.pair().freePort(1), 12);
        CableBook book = Rooms.pair();
        book.plug(1, 2, 1);
        CHECK.due("25 before a cable", book.freePort(0), 0);
        book.plug(0, 12, 1);
        CHECK.due("25 behind cables", book.freePort(0), 3);
        CHECK.due("25 behind a cable's other end", book.freePort(1), 13);
        book.pull(2);
        CHECK.due("25 between them", book.freePort(0), 1);
    }

    /** Promise 25: "Returns the lowest port of a panel that has neither a cable nor a strand, broken or not." */
    private static void freePortNeitherCableNorStrand() {
        CHECK.due("25 strands behind the first port", Rooms.oneTrunk().freePort(0), 0);
        CableBook book = Rooms.oneTrunk();
        book.plug(0, 4, 1);
        CHECK.due("25 behind a cable and two strands", book.freePort(0), 3);
        CHECK.due("25 the same at the other panel", book.freePort(1), 7);
        book.setBroken(0, 0, true);
        book.setBroken(0, 1, true);
        CHECK.due("25 broken ones", book.freePort(0), 3);
        CHECK.due("25 broken ones at the other panel", book.freePort(1), 7);
    }

    /** Promise 25: "Returns the port; -1 if there is none." */
    private static void freePortNone() {
        CHECK.due("25 full of cables", Rooms.pairFullOfCables().freePort(0), -1);
        CHECK.due("25 full of cables, the other panel", Rooms.pairFullOfCables().freePort(1), -1);
        CHECK.due("25 full of strands", Rooms.pairWithTrunk().freePort(0), -1);
        CHECK.due("25 full of strands, the other panel", Rooms.pairWithTrunk().freePort(1), -1);
        CableBook book = Rooms.tenTrunks();
        CHECK.due("25 only the last port", book.freePort(0), 10);
        book.plug(10, 21, 1);
        CHECK.due("25 not even that", book.freePort(0), -1);
        CHECK.due("25 nor at the other panel", book.freePort(1), -1);
        book.pull(21);
        CHECK.due("25 free again", book.freePort(1), 21);
    }

    /** Promise 25: "`panel`: 0 on"; Terms: "Panels are numbered from 0 on; there are at most 12." */
    private static void freePortFirstAndLastPanel() {
        CableBook book = Rooms.allPanels();
        CHECK.due("25 panel 0", book.freePort(0), 0);
        CHECK.due("25 panel 11", book.freePort(11), 132);
        for (int port = 132; port < 143; port++) {
            book.plug(port, port - 132, 1);
        }
        CHECK.due("25 the last port of all", book.freePort(11), 143);
        CHECK.due("25 the last port of the first panel", book.freePort(0), 11);
        book.plug(143, 11, 1);
        CHECK.due("25 no port behind it", book.freePort(11), -1);
        CHECK.due("25 not the next panel's", book.freePort(0), -1);
        CableBook small = Rooms.panels(12, 1);
        CHECK.due("25 a panel of one port", small.freePort(11), 11);
        small.plug(11, 0, 1);
        CHECK.due("25 it has a cable", small.freePort(11), -1);
    }

    /** Promise 25: "Throws `IndexOutOfBoundsException` if there is no such panel". */
    private static void freePortNoSuchPanel() {
        for (int panel : Check.outside(0, 11)) {
            CHECK.thrown("25 panel " + panel, Check.INDEX, Rooms::twelvePanels, b -> b.freePort(panel));
        }
        CHECK.thrown("25 panel 2 of two", Check.INDEX, Rooms::pair, b -> b.freePort(2));
        CHECK.thrown("25 no panels at all", Check.INDEX, CableBook::new, b -> b.freePort(0));
    }

    /**
     * Promise 26: "Returns the lowest strand between two panels that is not broken and has no cable at either
     * end.": broken.
     */
    private static void freeStrandNotBroken() {
        CableBook book = Rooms.oneTrunk();
        book.setBroken(0, 0, true);
        CHECK.due("26 the first is broken", book.freeStrand(0, 1), 2);
        CHECK.due("26 the first is broken, backwards", book.freeStrand(1, 0), 6);
        book.setBroken(0, 1, true);
        CHECK.due("26 all are broken", book.freeStrand(0, 1), -1);
        CHECK.due("26 all are broken, backwards", book.freeStrand(1, 0), -1);
        book.setBroken(0, 0, false);
        CHECK.due("26 the first is mended", book.freeStrand(0, 1), 1);
    }

    /**
     * Promise 26: "Returns the lowest strand between two panels that is not broken and has no cable at either
     * end.": cables.
     */
    private static void freeStrandNoCableAtEitherEnd() {
        CableBook near = Rooms.oneTrunk();
        near.plug(1, 0, 1);
        CHECK.due("26 a cable at the first panel", near.freeStrand(0, 1), 2);
        CHECK.due("26 asked from the other one", near.freeStrand(1, 0), 6);
        CableBook far = Rooms.oneTrunk();
        far.plug(8, 5, 1);
        CHECK.due("26 a cable at the other panel", far.freeStrand(0, 1), 2);
        CHECK.due("26 asked from there", far.freeStrand(1, 0), 6);
        CableBook both = Rooms.oneTrunk();
        both.plug(1, 5, 1);
        CHECK.due("26 at both ends", both.freeStrand(0, 1), 2);
        CableBook crossed = Rooms.oneTrunk();
        crossed.plug(1, 6, 1);
        CHECK.due("26 at one end of each", crossed.freeStrand(0, 1), -1);
        crossed.pull(6);
        CHECK.due("26 pulled", crossed.freeStrand(0, 1), 1);
    }

    /**
     * Promise 26: "Returns the port of its end at the first panel, of several strands the lowest such port; -1 if
     * there is none.": its end.
     */
    private static void freeStrandEndAtFirstPanel() {
        CHECK.due("26 at panel 0", Rooms.oneTrunk().freeStrand(0, 1), 1);
        CHECK.due("26 at panel 1", Rooms.oneTrunk().freeStrand(1, 0), 5);
        CableBook told = Rooms.pair();
        told.addTrunk(15, 4, 2, 1);
        CHECK.due("26 of a trunk told from panel 1, at panel 0", told.freeStrand(0, 1), 4);
        CHECK.due("26 of a trunk told from panel 1, at panel 1", told.freeStrand(1, 0), 15);
    }

    /**
     * Promise 26: "Returns the port of its end at the first panel, of several strands the lowest such port; -1 if
     * there is none.": several.
     */
    private static void freeStrandLowestOfSeveral() {
        CableBook book = Rooms.pair();
        book.addTrunk(8, 12, 2, 1);
        book.addTrunk(3, 20, 2, 1);
        CHECK.due("26 the second trunk is lower at panel 0", book.freeStrand(0, 1), 3);
        CHECK.due("26 the first trunk is lower at panel 1", book.freeStrand(1, 0), 12);
        book.plug(3, 0, 1);
        CHECK.due("26 its second strand at panel 0", book.freeStrand(0, 1), 4);
        book.setBroken(1, 1, true);
        CHECK.due("26 then the first trunk", book.freeStrand(0, 1), 8);
        CHECK.due("26 as before at panel 1", book.freeStrand(1, 0), 12);
        CableBook crossed = Rooms.pair();
        crossed.addTrunk(0, 23, 1, 1);
        crossed.addTrunk(11, 12, 1, 1);
        CHECK.due("26 lowest at 0 is highest at 1", crossed.freeStrand(0, 1), 0);
        CHECK.due("26 lowest at 1 is highest at 0", crossed.freeStrand(1, 0), 12);
    }

    /**
     * Promise 26: "Returns the port of its end at the first panel, of several strands the lowest such port; -1 if
     * there is none.": none.
     */
    private static void freeStrandNone() {
        CHECK.due("26 no trunks", Rooms.pair().freeStrand(0, 1), -1);
        CHECK.due("26 no trunk between these", Rooms.oneTrunk().freeStrand(0, 2), -1);
        CHECK.due("26 nor between those", Rooms.oneTrunk().freeStrand(2, 1), -1);
        CHECK.due("26 a cable is no strand", Rooms.pairFullOfCables().freeStrand(0, 1), -1);
        CHECK.due("26 each strand has cables", Rooms.ringOfAll().freeStrand(0, 1), -1);
        CableBook twoSteps = Rooms.oneTrunk();
        twoSteps.addTrunk(7, 8, 1, 1);
        CHECK.due("26 by way of a third panel", twoSteps.freeStrand(0, 2), -1);
    }

    /** Promise 26: "`other`: another one"; no exception is named for the same one, and no trunk joins it to itself. */
    private static void freeStrandOfOnePanel() {
        CHECK.due("26 a panel with strands and itself", Rooms.oneTrunk().freeStrand(0, 0), -1);
        CHECK.due("26 the other one and itself", Rooms.oneTrunk().freeStrand(1, 1), -1);
        CHECK.due("26 a panel without strands and itself", Rooms.oneTrunk().freeStrand(2, 2), -1);
    }

    /** Promise 26: "Returns the lowest strand between two panels": not one of a port just beside the panel. */
    private static void freeStrandOfNeighbours() {
        CableBook book = Rooms.panels(3, 4);
        book.addTrunk(3, 8, 1, 1);
        CHECK.due("26 the port before the panel", book.freeStrand(1, 2), -1);
        CHECK.due("26 the port behind the panel", book.freeStrand(1, 0), -1);
        CHECK.due("26 the last port of a panel", book.freeStrand(0, 2), 3);
        CHECK.due("26 the first port of a panel", book.freeStrand(2, 0), 8);
    }

    /**
     * Promise 26: "Returns the lowest strand between two panels": from the first and the last port of full panels.
     */
    private static void freeStrandFirstAndLastPort() {
        CableBook book = Rooms.allPanels();
        book.addTrunk(0, 132, 12, 500);
        CHECK.due("26 the first port", book.freeStrand(0, 11), 0);
        CHECK.due("26 the first port of the last panel", book.freeStrand(11, 0), 132);
        for (int strand = 0; strand < 11; strand++) {
            book.setBroken(0, strand, true);
        }
        CHECK.due("26 the last port of the first panel", book.freeStrand(0, 11), 11);
        CHECK.due("26 the last port of all", book.freeStrand(11, 0), 143);
        book.setBroken(0, 11, true);
        CHECK.due("26 none is left", book.freeStrand(11, 0), -1);
    }

    /** Promise 26: "Throws `IndexOutOfBoundsException` if there is no such panel". */
    private static void freeStrandNoSuchPanel() {
        for (int panel : Check.outside(0, 11)) {
            CHECK.thrown("26 panel " + panel, Check.INDEX, Rooms::twelvePanels, b -> b.freeStrand(panel, 0));
            CHECK.thrown("26 other " + panel, Check.INDEX, Rooms::twelvePanels, b -> b.freeStrand(11, panel));
            CHECK.thrown("26 both " + panel, Check.INDEX, Rooms::twelvePanels, b -> b.freeStrand(panel, panel));
        }
        CHECK.thrown("26 panel 2 of two", Check.INDEX, Rooms::pairWithTrunk, b -> b.freeStrand(2, 0));
        CHECK.thrown("26 other 2 of two", Check.INDEX, Rooms::pairWithTrunk, b -> b.freeStrand(0, 2));
        CHECK.thrown("26 no panels at all", Check.INDEX, CableBook::new, b -> b.freeStrand(0, 0));
    }

    /** Promise 27: "Returns how many strands of a trunk have a cable at both ends.": both. */
    private static void usedBothEnds() {
        CableBook book = Rooms.oneTrunk();
        CHECK.due("27 no cables", book.used(0), 0);
        book.plug(1, 0, 1);
        CHECK.due("27 at the first end only", book.used(0), 0);
        book.plug(6, 7, 1);
        CHECK.due("27 at the second end of another strand", book.used(0), 0);
        book.plug(5, 4, 1);
        CHECK.due("27 at both ends", book.used(0), 1);
        book.plug(2, 8, 1);
        CHECK.due("27 at both ends of both", book.used(0), 2);
        book.pull(8);
        CHECK.due("27 pulled", book.used(0), 1);
        CableBook one = Rooms.oneTrunk();
        one.plug(1, 5, 1);
        CHECK.due("27 both ends of one cable", one.used(0), 1);
    }

    /** Promise 27: "Returns how many strands of a trunk have a cable at both ends.": none to all twelve. */
    private static void usedNoneToAll() {
        CableBook book = Rooms.pairWithTrunk();
        CHECK.due("27 none of twelve", book.used(0), 0);
        for (int i = 0; i < 12; i++) {
            book.plug(i, 12 + i, 1);
            CHECK.due("27 strands up to " + i, book.used(0), i + 1);
        }
        CHECK.due("27 a trunk between two other panels", Rooms.ringOfAll().used(5), 12);
    }

    /** Promise 27: "Returns how many, broken ones included." */
    private static void usedBrokenIncluded() {
        CableBook book = Rooms.brokenTrunk();
        CHECK.due("27 broken, no cables", book.used(0), 0);
        book.plug(1, 5, 1);
        CHECK.due("27 one of the broken ones", book.used(0), 1);
        book.plug(6, 2, 1);
        CHECK.due("27 both of the broken ones", book.used(0), 2);
        book.setBroken(0, 0, false);
        CHECK.due("27 one of them mended", book.used(0), 2);
    }

    /** Promise 27: "`trunk`: its number"; Terms: "Trunks are numbered from 0 on; there are at most 10." */
    private static void usedFirstAndLastTrunk() {
        CableBook book = Rooms.tenTrunks();
        book.plug(9, 20, 1);
        CHECK.due("27 trunk 9", book.used(9), 1);
        CHECK.due("27 not trunk 8", book.used(8), 0);
        CHECK.due("27 nor trunk 0", book.used(0), 0);
        book.plug(11, 0, 1);
        CHECK.due("27 trunk 0", book.used(0), 1);
        CHECK.due("27 not trunk 1", book.used(1), 0);
    }

    /** Promise 27: "Throws `IndexOutOfBoundsException` if there is no such trunk". */
    private static void usedNoSuchTrunk() {
        for (int trunk : Check.outside(0, 9)) {
            CHECK.thrown("27 trunk " + trunk, Check.INDEX, Rooms::tenTrunks, b -> b.used(trunk));
        }
        CHECK.thrown("27 trunk 1 of one", Check.INDEX, Rooms::oneTrunk, b -> b.used(1));
        CHECK.thrown("27 panels only", Check.INDEX, Rooms::pair, b -> b.used(0));
        CHECK.thrown("27 a new object", Check.INDEX, CableBook::new, b -> b.used(0));
    }

    /** Promise 29: "Returns the sum of the lengths of all cables.": none. */
    private static void cableLengthNone() {
        CHECK.due("29 a new object", new CableBook().cableLength(), 0);
        CHECK.due("29 trunks are no cables", Rooms.pairWithTrunk().cableLength(), 0);
        CableBook book = Rooms.pair();
        book.plug(0, 23, 1);
        book.pull(0);
        CHECK.due("29 the last one was pulled", book.cableLength(), 0);
    }

    /**
     * Promise 29, Terms: "The length of a cable is 1 if both ports are of the same panel, 2 if their panels
     * are in the same rack, and otherwise 3 and twice the difference of the racks, together."
     */
    private static void cableLengthShortestAndLongest() {
        CableBook book = Rooms.panels(11, 4);
        book.plug(43, 40, 1);
        CHECK.due("29 one panel", book.cableLength(), 1);
        book.plug(42, 0, 1);
        CHECK.due("29 and one rack", book.cableLength(), 1 + 2);
        book.plug(1, 4, 1);
        CHECK.due("29 and the next rack", book.cableLength(), 1 + 2 + 5);
        book.plug(39, 41, 1);
        CHECK.due("29 and the farthest rack", book.cableLength(), 1 + 2 + 5 + 21);
        Check.outcome(() -> book.plug(39, 2, 1));
        CHECK.due("29 not one that was refused", book.cableLength(), 29);
    }

    /**
     * Promise 29: "Returns the sum of the lengths of all cables.": as many as there may be, as long as they may
     * be.
     */
    private static void cableLengthOfAll() {
        CableBook book = new CableBook();
        for (int i = 0; i < 12; i++) {
            book.addPanel(i < 6 ? 0 : 9, 12);
        }
        for (int i = 0; i < 72; i++) {
            book.plug(143 - i, i, 9);
        }
        CHECK.due("29 72 of length 21", book.cableLength(), 72 * 21);
        CHECK.due("29 a full ring", Rooms.ringOfAll().cableLength(), 66 * 1 + 6 * 2);
    }

    /** Promises 25 to 29, Terms: "nothing from here on changes anything". */
    private static void askingChangesNothing() {
        CHECK.unchanged("25 to 29", FreeEdgesTest::planned, b -> {
            b.freePort(0);
            b.freeStrand(0, 1);
            b.freeStrand(1, 2);
            b.used(0);
            b.canCarryOut();
            b.cableLength();
        });
    }

    private static CableBook planned() {
        CableBook book = Rooms.oneTrunk();
        book.plug(1, 5, 1);
        book.setBroken(0, 1, true);
        book.addMove(5, 11);
        return book;
    }
}
