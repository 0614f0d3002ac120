/** Promises 17 to 24: traces and lines. */
public final class TracesTest {
    private static final Check CHECK = new Check();

    public static void main(String[] args) {
        promise17End();
        promise18Hops();
        promise19HopTo();
        promise20LengthOf();
        promise17To20LongestTraces();
        promise21IsRing();
        promise22And23Joined();
        promise24Lines();
        CHECK.finish();
    }

    private static void promise17End() {
        CableBook book = row();
        CHECK.due("17 from the first, by cable", book.end(3, true), 5);
        CHECK.due("17 from the first, by strand: no hops", book.end(3, false), 3);
        CHECK.due("17 from the last, by cable", book.end(5, true), 3);
        CHECK.due("17 from the middle, by cable", book.end(9, true), 5);
        CHECK.due("17 from the middle, by strand", book.end(9, false), 3);
        CHECK.due("17 by strand only", book.end(0, false), 8);
        CHECK.due("17 no cable to begin with", book.end(0, true), 0);
        CHECK.due("17 nothing there", book.end(6, true) + book.end(6, false), 12);
        book.setBroken(0, 1, true);
        CHECK.due("17 ends before a broken strand", book.end(3, true), 1);
        CHECK.due("17 from the other side", book.end(5, true), 9);
        CHECK.due("17 begins with a broken strand", book.end(9, false), 9);
        CHECK.due("17 of a ring", ring().end(2, true), 2);
        CHECK.due("17 of a ring, by strand", ring().end(2, false), 2);
        CHECK.thrown("17 -1", Check.INDEX, TracesTest::row, b -> b.end(-1, true));
        CHECK.thrown("17 12", Check.INDEX, TracesTest::row, b -> b.end(12, false));
    }

    private static void promise18Hops() {
        CableBook book = row();
        CHECK.due("18 the whole line", book.hops(3, true), 5);
        CHECK.due("18 none", book.hops(3, false), 0);
        CHECK.due("18 from the middle, by cable", book.hops(9, true), 3);
        CHECK.due("18 from the middle, by strand", book.hops(9, false), 2);
        CHECK.due("18 one", book.hops(8, false), 1);
        CHECK.due("18 nothing there", book.hops(7, true) + book.hops(7, false), 0);
        book.setBroken(1, 0, true);
        CHECK.due("18 to a broken strand", book.hops(3, true), 3);
        CHECK.due("18 begins with a broken strand", book.hops(4, false), 0);
        CHECK.due("18 of a ring, with the hop back", ring().hops(0, true), 4);
        CHECK.due("18 of a ring, by strand", ring().hops(0, false), 4);
        CHECK.due("18 of the smallest ring", smallRing().hops(1, true), 2);
        CHECK.due("18 a broken ring, by cable", brokenRing().hops(1, true), 1);
        CHECK.due("18 a broken ring, by strand", brokenRing().hops(1, false), 2);
        CHECK.thrown("18 -1", Check.INDEX, TracesTest::row, b -> b.hops(-1, true));
        CHECK.thrown("18 12", Check.INDEX, TracesTest::row, b -> b.hops(12, false));
    }

    private static void promise19HopTo() {
        dueHops("19 the whole line", row(), 3, true, 1, 9, 11, 4, 5);
        dueHops("19 backwards", row(), 5, true, 4, 11, 9, 1, 3);
        dueHops("19 from the middle, by cable", row(), 9, true, 11, 4, 5);
        dueHops("19 from the middle, by strand", row(), 9, false, 1, 3);
        dueHops("19 no hops", row(), 3, false);
        dueHops("19 a ring, by cable", ring(), 0, true, 1, 3, 2, 0);
        dueHops("19 a ring, by strand", ring(), 0, false, 2, 3, 1, 0);
        dueHops("19 the smallest ring", smallRing(), 1, true, 0, 1);
        CHECK.thrown("19 no port", Check.INDEX, TracesTest::row, b -> b.hopTo(-1, true, 0));
        CHECK.thrown("19 no port 12", Check.INDEX, TracesTest::row, b -> b.hopTo(12, true, 0));
        CHECK.thrown("19 hop -1", Check.INDEX, TracesTest::row, b -> b.hopTo(3, true, -1));
        CHECK.thrown("19 greatest hop of int", Check.INDEX, TracesTest::row,
                b -> b.hopTo(3, true, Integer.MAX_VALUE));
        CHECK.thrown("19 least hop of int", Check.INDEX, TracesTest::row,
                b -> b.hopTo(3, true, Integer.MIN_VALUE));
        CableBook book = row();
        book.hops(3, true);
        CHECK.due("19 not a hop of an earlier trace",
                Check.outcome(() -> book.hopTo(0, false, 1)), "IndexOutOfBoundsException");
    }

    private static void dueHops(String what, CableBook book, int port, boolean cable, int... ports) {
        for (int hop = 0; hop < ports.length; hop++) {
            CHECK.due(what + " hop " + hop, book.hopTo(port, cable, hop), ports[hop]);
        }
        CHECK.due(what + " ends there",
                Check.outcome(() -> book.hopTo(port, cable, ports.length)), "IndexOutOfBoundsException");
    }

    private static void promise20LengthOf() {
        CableBook book = row();
        CHECK.due("20 the whole line", book.lengthOf(3, true), 1 + 40 + 1 + 25 + 1);
        CHECK.due("20 backwards", book.lengthOf(5, true), 68);
        CHECK.due("20 no hops", book.lengthOf(3, false), 0);
        CHECK.due("20 by cable", book.lengthOf(9, true), 1 + 25 + 1);
        CHECK.due("20 by strand", book.lengthOf(9, false), 40 + 1);
        CHECK.due("20 the other trunk", book.lengthOf(4, false), 25 + 1 + 40 + 1);
        book.plug(0, 6, 1);
        CHECK.due("20 a cable to another panel", book.lengthOf(0, true), 2);
        CHECK.due("20 from its other end", book.lengthOf(6, true), 2 + 40);
        book.plug(8, 7, 1);
        CHECK.due("20 cables to other racks", book.lengthOf(6, true), 2 + 40 + 9);
        book.setBroken(0, 1, true);
        CHECK.due("20 to a broken strand", book.lengthOf(3, true), 1);
        CHECK.due("20 begins with a broken strand", book.lengthOf(9, false), 0);
        CHECK.due("20 a ring, once round", ring().lengthOf(3, true), 1 + 10 + 1 + 10);
        CHECK.due("20 a ring, by strand", ring().lengthOf(3, false), 22);
        CHECK.due("20 the smallest ring", smallRing().lengthOf(0, true), 521);
        CHECK.thrown("20 -1", Check.INDEX, TracesTest::row, b -> b.lengthOf(-1, true));
        CHECK.thrown("20 12", Check.INDEX, TracesTest::row, b -> b.lengthOf(12, false));
    }

    private static void promise17To20LongestTraces() {
        CableBook open = snake();
        CHECK.due("17 a line of 60 strands", open.end(0, false), 107);
        CHECK.due("18 its hops", open.hops(0, false), 119);
        CHECK.due("19 its last hop", open.hopTo(0, false, 118), 107);
        CHECK.due("20 its length", open.lengthOf(0, false), 60 * 500 + 55 * 1 + 4 * 2);
        CHECK.due("21 no ring", open.isRing(60), false);
        CHECK.due("22 its two ends", open.areJoined(0, 107), true);
        CHECK.due("23 its two ends", open.areJoinedBySearch(0, 107), true);
        CHECK.due("24 the line and the other ports", open.lines(), 1 + 24);
        CableBook ring = snake();
        ring.plug(107, 0, 1);
        CHECK.due("17 a ring of 120 ports", ring.end(77, true), 77);
        CHECK.due("18 its hops", ring.hops(77, true), 120);
        CHECK.due("19 its last hop", ring.hopTo(77, true, 119), 77);
        CHECK.due("20 its length", ring.lengthOf(77, true), 60 * 500 + 55 * 1 + 5 * 2);
        CHECK.due("21 a ring", ring.isRing(119), true);
        CHECK.due("24 the ring and the other ports", ring.lines(), 1 + 24);
        CableBook longest = snake();
        longest.plug(120, 0, 1);
        longest.plug(107, 121, 1);
        CHECK.due("18 the longest line", longest.hops(120, true), 121);
        CHECK.due("17 its end", longest.end(120, true), 121);
        CHECK.due("23 its ends", longest.areJoinedBySearch(121, 120), true);
    }

    private static void promise21IsRing() {
        CHECK.due("21 a ring", ring().isRing(0), true);
        CHECK.due("21 at each port", ring().isRing(3), true);
        CHECK.due("21 the smallest", smallRing().isRing(0), true);
        CHECK.due("21 a broken one", brokenRing().isRing(0), false);
        CHECK.due("21 a broken one, elsewhere", brokenRing().isRing(1), false);
        CHECK.due("21 a row", row().isRing(9), false);
        CHECK.due("21 a port alone", row().isRing(6), false);
        CHECK.due("21 a strand alone", row().isRing(0), false);
        CableBook book = row();
        book.plug(6, 7, 1);
        CHECK.due("21 a cable alone", book.isRing(6), false);
        CableBook mended = brokenRing();
        mended.setBroken(0, 0, false);
        CHECK.due("21 mended", mended.isRing(0), true);
        mended.pull(0);
        CHECK.due("21 without a cable", mended.isRing(0), false);
        CHECK.thrown("21 -1", Check.INDEX, TracesTest::ring, b -> b.isRing(-1));
        CHECK.thrown("21 4", Check.INDEX, TracesTest::ring, b -> b.isRing(4));
    }

    private static void promise22And23Joined() {
        dueJoined("ends of a row", row(), 3, 5, true);
        dueJoined("ends of a row backwards", row(), 5, 3, true);
        dueJoined("from the middle, behind the cable", row(), 9, 5, true);
        dueJoined("from the middle, behind the strand", row(), 9, 3, true);
        dueJoined("next to each other, cable", row(), 4, 5, true);
        dueJoined("next to each other, strand", row(), 8, 0, true);
        dueJoined("two lines", row(), 3, 0, false);
        dueJoined("two ports alone", row(), 6, 7, false);
        dueJoined("a port alone and itself", row(), 6, 6, true);
        dueJoined("a line and a port alone", row(), 3, 7, false);
        dueJoined("a ring", ring(), 0, 3, true);
        dueJoined("a port of a ring and itself", ring(), 2, 2, true);
        dueJoined("broken ring, the other way round", brokenRing(), 0, 2, true);
        dueJoined("behind a broken strand", brokenRow(), 3, 9, false);
        dueJoined("behind a broken strand, backwards", brokenRow(), 5, 1, false);
        dueJoined("before a broken strand", brokenRow(), 3, 1, true);
        dueJoined("ends of a broken strand", brokenRow(), 1, 9, false);
        CableBook asked = row();
        dueJoined("asked before: joined", asked, 3, 5, true);
        dueJoined("asked before: two lines", asked, 0, 5, false);
        CHECK.due("asked for the lines", asked.lines(), 5);
        dueJoined("asked before: two ports alone", asked, 6, 7, false);
        dueJoined("asked before: joined still", asked, 8, 0, true);
        asked.plug(0, 6, 1);
        dueJoined("joined since", asked, 8, 6, true);
        asked.pull(6);
        dueJoined("parted since", asked, 6, 8, false);
        for (int wrong : new int[] {-1, 12, Integer.MAX_VALUE, Integer.MIN_VALUE}) {
            CHECK.thrown("22 a " + wrong, Check.INDEX, TracesTest::row, b -> b.areJoined(wrong, 0));
            CHECK.thrown("22 b " + wrong, Check.INDEX, TracesTest::row, b -> b.areJoined(0, wrong));
            CHECK.thrown("22 both " + wrong, Check.INDEX, TracesTest::row, b -> b.areJoined(wrong, wrong));
            CHECK.thrown("23 a " + wrong, Check.INDEX, TracesTest::row, b -> b.areJoinedBySearch(wrong, 0));
            CHECK.thrown("23 b " + wrong, Check.INDEX, TracesTest::row, b -> b.areJoinedBySearch(0, wrong));
            CHECK.thrown("23 both " + wrong, Check.INDEX, TracesTest::row, b -> b.areJoinedBySearch(wrong, wrong));
        }
    }

    private static void dueJoined(String what, CableBook book, int a, int b, boolean joined) {
        CHECK.due("22 " + what, book.areJoined(a, b), joined);
        CHECK.due("23 " + what, book.areJoinedBySearch(a, b), joined);
    }

    private static void promise24Lines() {
        CHECK.due("24 none", new CableBook().lines(), 0);
        CableBook book = new CableBook();
        book.addPanel(0, 3);
        CHECK.due("24 ports alone", book.lines(), 3);
        book.plug(0, 2, 1);
        CHECK.due("24 a cable joins two", book.lines(), 2);
        CableBook row = row();
        CHECK.due("24 a row, two strands, ports alone", row.lines(), 1 + 2 + 2);
        CHECK.due("24 again", row.lines(), 5);
        CHECK.due("24 a broken strand parts a line", brokenRow().lines(), 6);
        CHECK.due("24 a ring", ring().lines(), 1);
        CHECK.due("24 a broken ring", brokenRing().lines(), 1);
        CHECK.due("24 the smallest ring", smallRing().lines(), 1);
        row.pull(11);
        CHECK.due("24 a cable less", row.lines(), 6);
        row.setBroken(0, 0, true);
        CHECK.due("24 ends of a broken strand alone are lines", row.lines(), 7);
    }

    /** The line 3 - 1 = 9 - 11 = 4 - 5 (- a cable, = a strand), the strands 0 = 8 and 2 = 10, and 6, 7 alone. */
    private static CableBook row() {
        CableBook book = new CableBook();
        book.addPanel(0, 4);
        book.addPanel(0, 4);
        book.addPanel(3, 4);
        book.addTrunk(0, 8, 3, 40);
        book.addTrunk(4, 11, 1, 25);
        book.plug(3, 1, 2);
        book.plug(9, 11, 5);
        book.plug(4, 5, 7);
        return book;
    }

    private static CableBook brokenRow() {
        CableBook book = row();
        book.setBroken(0, 1, true);
        return book;
    }

    /** 0 - 1 = 3 - 2 = 0. */
    private static CableBook ring() {
        CableBook book = new CableBook();
        book.addPanel(0, 2);
        book.addPanel(5, 2);
        book.addTrunk(0, 2, 2, 10);
        book.plug(0, 1, 1);
        book.plug(2, 3, 2);
        return book;
    }

    private static CableBook brokenRing() {
        CableBook book = ring();
        book.setBroken(0, 0, true);
        return book;
    }

    /** A cable and a strand between the same two ports. */
    private static CableBook smallRing() {
        CableBook book = new CableBook();
        book.addPanel(0, 1);
        book.addPanel(9, 1);
        book.addTrunk(1, 0, 1, 500);
        book.plug(0, 1, 1);
        return book;
    }

    /** Twelve panels of twelve ports in one rack; a line goes along all sixty strands, from port 0 to port 107. */
    private static CableBook snake() {
        CableBook book = new CableBook();
        for (int i = 0; i < 12; i++) {
            book.addPanel(1, 12);
        }
        int last = 0;
        for (int pair = 0; pair < 5; pair++) {
            int near = 24 * pair;
            int far = near + 12;
            book.addTrunk(near, far, 6, 500);
            book.addTrunk(near + 6, far + 6, 6, 500);
            for (int strand = 0; strand < 12; strand++) {
                boolean outwards = strand % 2 == 0;
                if (pair + strand > 0) {
                    book.plug(last, strand + (outwards ? near : far), 1);
                }
                last = strand + (outwards ? far : near);
            }
        }
        return book;
    }
}
