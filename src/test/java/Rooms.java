/** Rooms for the tests of edges: empty, full, and just below full. */
final class Rooms {
    static final int ALL_PORTS = 144;

    private Rooms() { }

    /** Panels of so many ports each, in the racks 0, 1, .. 9, 0, 1. */
    static CableBook panels(int count, int ports) {
        CableBook book = new CableBook();
        for (int i = 0; i < count; i++) {
            book.addPanel(i % 10, ports);
        }
        return book;
    }

    /** As many ports as there may be: 0 to 143. */
    static CableBook allPanels() {
        return panels(12, 12);
    }

    /** Panels of three ports each: no room for another one, and few enough ports to read them all. */
    static CableBook twelvePanels() {
        return panels(12, 3);
    }

    /** Two panels of twelve ports, 0 to 11 in rack 0 and 12 to 23 in rack 9. */
    static CableBook pair() {
        CableBook book = new CableBook();
        book.addPanel(0, 12);
        book.addPanel(9, 12);
        return book;
    }

    /** The pair, and strands from 0 = 12 to 11 = 23. */
    static CableBook pairWithTrunk() {
        CableBook book = pair();
        book.addTrunk(0, 12, 12, 500);
        return book;
    }

    /** Two panels, 0 to 10 and 11 to 21; trunk t is the strand t = 11 + t; only 10 and 21 have no strand. */
    static CableBook tenTrunks() {
        CableBook book = panels(2, 11);
        for (int i = 0; i < 10; i++) {
            book.addTrunk(i, 11 + i, 1, 1 + i);
        }
        return book;
    }

    /** Three panels, 0 to 3, 4 to 7 and 8 to 11, with the strands 1 = 5 and 2 = 6. */
    static CableBook oneTrunk() {
        CableBook book = panels(3, 4);
        book.addTrunk(1, 5, 2, 30);
        return book;
    }

    static CableBook brokenTrunk() {
        CableBook book = oneTrunk();
        book.setBroken(0, 0, true);
        book.setBroken(0, 1, true);
        return book;
    }

    /** The pair, and twelve cables from 0 - 12 to 11 - 23: each port has one. */
    static CableBook pairFullOfCables() {
        CableBook book = pair();
        for (int i = 0; i < 12; i++) {
            book.plug(i, 12 + i, 1 + i % 9);
        }
        return book;
    }

    /** Each port has a strand and a cable, and all 144 ports are one ring, in one rack. */
    static CableBook ringOfAll() {
        CableBook book = new CableBook();
        for (int i = 0; i < 12; i++) {
            book.addPanel(4, 12);
        }
        for (int near = 0; near < ALL_PORTS; near += 24) {
            int far = near + 12;
            book.addTrunk(near, far, 12, 500);
            for (int strand = 0; strand < 12; strand += 2) {
                book.plug(far + strand, far + strand + 1, 1);
            }
            for (int strand = 1; strand < 11; strand += 2) {
                book.plug(near + strand, near + strand + 1, 2);
            }
            book.plug(near + 11, (near + 24) % ALL_PORTS, 3);
        }
        return book;
    }

    static CableBook plan(CableBook book, int... moves) {
        for (int i = 0; i + 1 < moves.length; i += 2) {
            book.addMove(moves[i], moves[i + 1]);
        }
        return book;
    }
}
