/** Promises 10 to 16: what there is. */
public final class ContentsTest {
    private static final Check CHECK = new Check();

    public static void main(String[] args) {
        promise10Ports();
        promise11Trunks();
        promise12Cables();
        promise13PanelOf();
        promise14ByCable();
        promise15ByStrand();
        promise16Colour();
        CHECK.finish();
    }

    private static void promise10Ports() {
        CableBook book = new CableBook();
        CHECK.due("10 none", book.ports(), 0);
        book.addPanel(0, 5);
        CHECK.due("10 of one panel", book.ports(), 5);
        book.addPanel(7, 12);
        book.addPanel(7, 1);
        CHECK.due("10 of all panels", book.ports(), 18);
        book.plug(0, 1, 1);
        CHECK.due("10 a port with a cable is one", book.ports(), 18);
        CHECK.due("10 a full room", full().ports(), 144);
    }

    private static void promise11Trunks() {
        CableBook book = room();
        CHECK.due("11 two", book.trunks(), 2);
        book.setBroken(0, 0, true);
        book.setBroken(0, 1, true);
        book.setBroken(0, 2, true);
        CHECK.due("11 a broken one is one", book.trunks(), 2);
        CHECK.due("11 none", new CableBook().trunks(), 0);
        CHECK.due("11 a full room", full().trunks(), 10);
    }

    private static void promise12Cables() {
        CableBook book = room();
        CHECK.due("12 two", book.cables(), 2);
        book.plug(11, 10, 9);
        CHECK.due("12 one more", book.cables(), 3);
        book.pull(11);
        book.pull(2);
        CHECK.due("12 two less", book.cables(), 1);
        book.pull(8);
        CHECK.due("12 none again", book.cables(), 0);
        CHECK.due("12 a full room", full().cables(), 72);
    }

    private static void promise13PanelOf() {
        CableBook book = room();
        CHECK.due("13 first of the first", book.panelOf(0), 0);
        CHECK.due("13 last of the first", book.panelOf(3), 0);
        CHECK.due("13 first of the second", book.panelOf(4), 1);
        CHECK.due("13 last of the second", book.panelOf(6), 1);
        CHECK.due("13 first of the third", book.panelOf(7), 2);
        CHECK.due("13 last of the third", book.panelOf(11), 2);
        CableBook full = full();
        for (int port = 0; port < 144; port += 13) {
            CHECK.due("13 full room " + port, full.panelOf(port), port / 12);
        }
        CHECK.due("13 last of the last", full.panelOf(143), 11);
        CHECK.thrown("13 -1", Check.INDEX, ContentsTest::room, b -> b.panelOf(-1));
        CHECK.thrown("13 12", Check.INDEX, ContentsTest::room, b -> b.panelOf(12));
        CHECK.thrown("13 greatest int", Check.INDEX, ContentsTest::room, b -> b.panelOf(Integer.MAX_VALUE));
        CHECK.due("13 144 of a full room", Check.outcome(() -> full.panelOf(144)), "IndexOutOfBoundsException");
    }

    private static void promise14ByCable() {
        CableBook book = room();
        CHECK.due("14 one end", book.byCable(1), 8);
        CHECK.due("14 the other end", book.byCable(8), 1);
        CHECK.due("14 in one panel", book.byCable(2), 3);
        CHECK.due("14 none", book.byCable(0), -1);
        CHECK.due("14 a strand only", book.byCable(5), -1);
        book.plug(0, 11, 1);
        CHECK.due("14 port 0 is a port", book.byCable(11), 0);
        CHECK.thrown("14 -1", Check.INDEX, ContentsTest::room, b -> b.byCable(-1));
        CHECK.thrown("14 12", Check.INDEX, ContentsTest::room, b -> b.byCable(12));
    }

    private static void promise15ByStrand() {
        CableBook book = room();
        CHECK.due("15 one end", book.byStrand(1), 5);
        CHECK.due("15 the other end", book.byStrand(5), 1);
        CHECK.due("15 first strand", book.byStrand(0), 4);
        CHECK.due("15 last strand", book.byStrand(6), 2);
        CHECK.due("15 second trunk", book.byStrand(3), 11);
        CHECK.due("15 none", book.byStrand(7), -1);
        CHECK.due("15 a cable only", book.byStrand(8), -1);
        book.setBroken(0, 1, true);
        CHECK.due("15 broken", book.byStrand(1), 5);
        CHECK.due("15 broken, the other end", book.byStrand(5), 1);
        CHECK.thrown("15 -1", Check.INDEX, ContentsTest::room, b -> b.byStrand(-1));
        CHECK.thrown("15 12", Check.INDEX, ContentsTest::room, b -> b.byStrand(12));
    }

    private static void promise16Colour() {
        CableBook book = room();
        CHECK.due("16 one end", book.colour(1), 3);
        CHECK.due("16 the other end", book.colour(8), 3);
        CHECK.due("16 another cable", book.colour(2), 9);
        CHECK.due("16 none", book.colour(0), 0);
        book.pull(1);
        CHECK.due("16 pulled", book.colour(8), 0);
        book.plug(8, 7, 1);
        CHECK.due("16 another one there", book.colour(8), 1);
        CHECK.thrown("16 -1", Check.INDEX, ContentsTest::room, b -> b.colour(-1));
        CHECK.thrown("16 12", Check.INDEX, ContentsTest::room, b -> b.colour(12));
    }

    /** Ports 0 to 3, 4 to 6 and 7 to 11, two trunks and two cables. */
    private static CableBook room() {
        CableBook book = new CableBook();
        book.addPanel(0, 4);
        book.addPanel(2, 3);
        book.addPanel(2, 5);
        book.addTrunk(0, 4, 3, 20);
        book.addTrunk(11, 3, 1, 30);
        book.plug(8, 1, 3);
        book.plug(2, 3, 9);
        return book;
    }

    /** Everything that can be there at once. */
    private static CableBook full() {
        CableBook book = new CableBook();
        for (int i = 0; i < 12; i++) {
            book.addPanel(i % 10, 12);
        }
        for (int i = 0; i < 5; i++) {
            book.addTrunk(24 * i, 24 * i + 12, 6, 500);
            book.addTrunk(24 * i + 6, 24 * i + 18, 6, 500);
        }
        for (int i = 0; i < 72; i++) {
            book.plug(i, 143 - i, 1 + i % 9);
        }
        return book;
    }
}
