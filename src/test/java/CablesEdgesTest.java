/** The edges of promises 5 to 8: each test says which sentence of the document it holds. */
public final class CablesEdgesTest {
    private static final Check CHECK = new Check();

    public static void main(String[] args) {
        plugFirstAndLastPort();
        plugColourLeastAndMost();
        plugReturnsLength();
        plugNoSuchPort();
        plugColourOutOfRange();
        plugSamePort();
        plugPortHasCable();
        plugFullOfCables();
        plugFirstNamedException();
        plugRefusedChangesNothing();
        pullAtBothEnds();
        pullReturnsOther();
        pullNoSuchPort();
        pullNoCable();
        pullLastCable();
        pullFirstNamedException();
        moveFirstAndLastPort();
        moveReturnsHowMany();
        moveNoSuchPort();
        moveSamePort();
        moveThirteenth();
        moveNeedsNotBePossible();
        moveFirstNamedException();
        dropReturnsHowMany();
        dropOfNoMoves();
        dropDoesNothing();
        CHECK.finish();
    }

    /** Promise 5: "`a`: a port", "`b`: another one": the first one and the last one there is. */
    private static void plugFirstAndLastPort() {
        CableBook book = Rooms.allPanels();
        CHECK.due("5 the first to the last", book.plug(0, 143, 1), 5);
        CHECK.due("5 at the first", book.byCable(0), 143);
        CHECK.due("5 at the last", book.byCable(143), 0);
        CHECK.due("5 the last but one to the second", book.plug(142, 1, 1), 5);
        CHECK.due("5 at the second", book.byCable(1), 142);
    }

    /** Promise 5: "`colour`: 1 to 9"; Terms: "Cables have colours, 1 to 9." */
    private static void plugColourLeastAndMost() {
        CableBook book = Rooms.pair();
        CHECK.due("5 colour 1", book.plug(0, 1, 1), 1);
        CHECK.due("5 colour 9", book.plug(2, 3, 9), 1);
        CHECK.due("5 is 1 at both ends", book.colour(0) * 10 + book.colour(1), 11);
        CHECK.due("5 is 9 at both ends", book.colour(2) * 10 + book.colour(3), 99);
    }

    /**
     * Promise 5: "Returns the length of the cable."; Terms: "The length of a cable is 1 if both ports
     * are of the same panel, 2 if their panels are in the same rack, and otherwise 3 and twice the
     * difference of the racks, together."
     */
    private static void plugReturnsLength() {
        CableBook book = new CableBook();
        for (int rack = 0; rack <= 9; rack++) {
            book.addPanel(rack, 12);
        }
        book.addPanel(0, 12);
        CHECK.due("5 the ends of a panel", book.plug(119, 108, 1), 1);
        CHECK.due("5 rack 0 twice", book.plug(0, 131, 1), 2);
        CHECK.due("5 rack 0 twice, backwards", book.plug(120, 1, 1), 2);
        for (int rack = 1; rack <= 9; rack++) {
            CHECK.due("5 racks 0 and " + rack, book.plug(1 + rack, 12 * rack + 1, 1), 3 + 2 * rack);
            CHECK.due("5 racks " + rack + " and 0", book.plug(12 * rack + 2, 120 + rack, 1), 3 + 2 * rack);
        }
        CHECK.due("5 racks 8 and 9", book.plug(96, 117, 1), 5);
        CHECK.due("5 neighbours of two panels", book.plug(11, 12, 1), 5);
    }

    /** Promise 5: "Throws `IndexOutOfBoundsException` if there is no such port". */
    private static void plugNoSuchPort() {
        for (int port : Check.outside(0, 11)) {
            CHECK.thrown("5 a " + port, Check.INDEX, () -> Rooms.panels(3, 4), b -> b.plug(port, 0, 1));
            CHECK.thrown("5 b " + port, Check.INDEX, () -> Rooms.panels(3, 4), b -> b.plug(11, port, 9));
        }
        CHECK.thrown("5 no ports at all", Check.INDEX, CableBook::new, b -> b.plug(0, 1, 1));
    }

    /**
     * Promise 5: "Throws `IllegalArgumentException` if colour is out of range, or both ports are the same":
     * colour.
     */
    private static void plugColourOutOfRange() {
        for (int colour : Check.outside(1, 9)) {
            CHECK.thrown("5 colour " + colour, Check.ARGUMENT, Rooms::pair, b -> b.plug(0, 23, colour));
        }
    }

    /**
     * Promise 5: "Throws `IllegalArgumentException` if colour is out of range, or both ports are the same": the
     * same; Terms: "A cable is plugged between two different ports".
     */
    private static void plugSamePort() {
        CHECK.thrown("5 the first port twice", Check.ARGUMENT, Rooms::pair, b -> b.plug(0, 0, 1));
        CHECK.thrown("5 the last port twice", Check.ARGUMENT, Rooms::pair, b -> b.plug(23, 23, 9));
    }

    /**
     * Promise 5: "Throws `IllegalStateException` if one of the ports has a cable"; Terms: "a port has at
     * most one cable."
     */
    private static void plugPortHasCable() {
        CHECK.thrown("5 a is its first end", Check.STATE, CablesEdgesTest::oneCable, b -> b.plug(0, 1, 1));
        CHECK.thrown("5 a is its second end", Check.STATE, CablesEdgesTest::oneCable, b -> b.plug(23, 1, 1));
        CHECK.thrown("5 b is its first end", Check.STATE, CablesEdgesTest::oneCable, b -> b.plug(22, 0, 1));
        CHECK.thrown("5 b is its second end", Check.STATE, CablesEdgesTest::oneCable, b -> b.plug(22, 23, 1));
        CHECK.thrown("5 the same cable again", Check.STATE, CablesEdgesTest::oneCable, b -> b.plug(0, 23, 4));
        CHECK.thrown("5 and the other way round", Check.STATE, CablesEdgesTest::oneCable, b -> b.plug(23, 0, 4));
        CHECK.due("5 a strand is no cable", Rooms.pairWithTrunk().plug(0, 12, 1), 21);
    }

    /** Promise 5: "Throws `IllegalStateException` if one of the ports has a cable": all of them have. */
    private static void plugFullOfCables() {
        for (int port = 0; port < 23; port++) {
            int a = port;
            CHECK.thrown("5 full, " + a, Check.STATE, Rooms::pairFullOfCables, b -> b.plug(a, 23, 1));
        }
        CableBook book = Rooms.pairFullOfCables();
        book.pull(0);
        CHECK.due("5 room for one again", book.plug(12, 0, 1), 21);
        CableBook all = Rooms.allPanels();
        for (int i = 0; i < 72; i++) {
            CHECK.due("5 cable " + i + " of 72", all.plug(2 * i, 2 * i + 1, 9), 1);
        }
        CHECK.due("5 no 73rd", Check.outcome(() -> all.plug(0, 143, 1)), "IllegalStateException");
    }

    /**
     * Promise 5, Terms: "If several exceptions apply, the one that is named first in the throws
     * clause is thrown."
     */
    private static void plugFirstNamedException() {
        CHECK.thrown("5 all apply", Check.INDEX, CablesEdgesTest::oneCable, b -> b.plug(0, 24, 10));
        CHECK.thrown("5 no port, colour wrong", Check.INDEX, CablesEdgesTest::oneCable, b -> b.plug(-1, 1, 0));
        CHECK.thrown("5 no port, twice", Check.INDEX, CablesEdgesTest::oneCable, b -> b.plug(-1, -1, 1));
        CHECK.thrown("5 no port, has a cable", Check.INDEX, CablesEdgesTest::oneCable, b -> b.plug(23, 24, 1));
        CHECK.thrown("5 colour wrong, has a cable", Check.ARGUMENT, CablesEdgesTest::oneCable, b -> b.plug(0, 1, 0));
        CHECK.thrown("5 colour wrong, b has a cable", Check.ARGUMENT, CablesEdgesTest::oneCable, b -> b.plug(1, 0, 10));
        CHECK.thrown("5 the same, has a cable", Check.ARGUMENT, CablesEdgesTest::oneCable, b -> b.plug(23, 23, 1));
    }

    /** Promise 5, Terms: "A call that throws an exception changes nothing." */
    private static void plugRefusedChangesNothing() {
        CableBook book = oneCable();
        Check.outcome(() -> book.plug(1, 23, 9));
        CHECK.due("5 the cable keeps its ends", book.byCable(0) * 100 + book.byCable(23), 2300);
        CHECK.due("5 and its colour", book.colour(23), 4);
        CHECK.due("5 the free port is still free", book.plug(1, 22, 9), 21);
    }

    /** Promise 6: "Pulls a cable out at both ends." */
    private static void pullAtBothEnds() {
        CableBook book = oneCable();
        book.pull(23);
        CHECK.due("6 no cable at either", book.byCable(0) + book.byCable(23), -2);
        CHECK.due("6 no colour at either", book.colour(0) + book.colour(23), 0);
        CHECK.due("6 one end is free", book.plug(0, 1, 1), 1);
        CHECK.due("6 the other one, too", book.plug(23, 22, 1), 1);
    }

    /** Promise 6: "`port`: one of its ports", "Returns the other one." */
    private static void pullReturnsOther() {
        CHECK.due("6 at the first port", oneCable().pull(0), 23);
        CHECK.due("6 at the last port", oneCable().pull(23), 0);
        CableBook book = Rooms.pairFullOfCables();
        for (int i = 0; i < 12; i++) {
            int port = i % 2 == 0 ? i : 12 + i;
            CHECK.due("6 of twelve, at " + port, book.pull(port), (port + 12) % 24);
        }
        CHECK.due("6 none is left", book.cables(), 0);
    }

    /** Promise 6: "Throws `IndexOutOfBoundsException` if there is no such port". */
    private static void pullNoSuchPort() {
        for (int port : Check.outside(0, 23)) {
            CHECK.thrown("6 port " + port, Check.INDEX, Rooms::pairFullOfCables, b -> b.pull(port));
        }
        CHECK.thrown("6 no ports at all", Check.INDEX, CableBook::new, b -> b.pull(0));
    }

    /** Promise 6: "Throws `IllegalStateException` if it has no cable". */
    private static void pullNoCable() {
        CHECK.thrown("6 never had one", Check.STATE, CablesEdgesTest::oneCable, b -> b.pull(1));
        CHECK.thrown("6 beside one", Check.STATE, CablesEdgesTest::oneCable, b -> b.pull(22));
        CHECK.thrown("6 a strand only", Check.STATE, Rooms::pairWithTrunk, b -> b.pull(0));
        CHECK.thrown("6 no cables at all", Check.STATE, Rooms::pair, b -> b.pull(0));
    }

    /** Promise 6: "Throws `IllegalStateException` if it has no cable": the last one was pulled. */
    private static void pullLastCable() {
        CHECK.thrown("6 again at the same end", Check.STATE, CablesEdgesTest::pulled, b -> b.pull(0));
        CHECK.thrown("6 again at the other end", Check.STATE, CablesEdgesTest::pulled, b -> b.pull(23));
    }

    /**
     * Promise 6, Terms: "If several exceptions apply, the one that is named first in the throws
     * clause is thrown."
     */
    private static void pullFirstNamedException() {
        CHECK.thrown("6 no port, and so no cable", Check.INDEX, Rooms::pair, b -> b.pull(24));
        CHECK.thrown("6 no port before the first", Check.INDEX, Rooms::pair, b -> b.pull(-1));
    }

    /** Promise 7: "`a`: a port", "`b`: a port": the first one and the last one there is. */
    private static void moveFirstAndLastPort() {
        CableBook book = Rooms.allPanels();
        book.plug(0, 1, 6);
        CHECK.due("7 from the first to the last", book.addMove(0, 143), 1);
        CHECK.due("7 done", book.carryOut(), 1);
        CHECK.due("7 is there", book.byCable(143), 1);
        CHECK.due("7 from the last to the first", book.addMove(143, 0), 1);
        CHECK.due("7 done", book.carryOut(), 1);
        CHECK.due("7 is back", book.byCable(0), 1);
    }

    /** Promise 7: "Returns how many moves the plan has then."; Terms: "A plan is a row of moves, at most 12". */
    private static void moveReturnsHowMany() {
        CableBook book = Rooms.pair();
        for (int i = 1; i <= 12; i++) {
            CHECK.due("7 move " + i, book.addMove(i - 1, 24 - i), i);
        }
        book.dropPlan();
        CHECK.due("7 the first after a plan that was dropped", book.addMove(0, 1), 1);
        CableBook done = oneCable();
        done.addMove(0, 1);
        done.carryOut();
        CHECK.due("7 the first after a plan that was carried out", done.addMove(1, 0), 1);
    }

    /** Promise 7: "Throws `IndexOutOfBoundsException` if there is no such port". */
    private static void moveNoSuchPort() {
        for (int port : Check.outside(0, 23)) {
            CHECK.thrown("7 a " + port, Check.INDEX, CablesEdgesTest::oneCable, b -> b.addMove(port, 0));
            CHECK.thrown("7 b " + port, Check.INDEX, CablesEdgesTest::oneCable, b -> b.addMove(23, port));
        }
        CHECK.thrown("7 no ports at all", Check.INDEX, CableBook::new, b -> b.addMove(0, 1));
    }

    /** Promise 7: "Throws `IllegalArgumentException` if both are the same". */
    private static void moveSamePort() {
        CHECK.thrown("7 the first port", Check.ARGUMENT, CablesEdgesTest::oneCable, b -> b.addMove(0, 0));
        CHECK.thrown("7 the last port", Check.ARGUMENT, CablesEdgesTest::oneCable, b -> b.addMove(23, 23));
        CHECK.thrown("7 a port without a cable", Check.ARGUMENT, CablesEdgesTest::oneCable, b -> b.addMove(5, 5));
    }

    /** Promise 7: "Throws `IllegalStateException` if it has 12 moves". */
    private static void moveThirteenth() {
        CHECK.due("7 a twelfth", elevenMoves().addMove(11, 0), 12);
        CHECK.thrown("7 a thirteenth", Check.STATE, CablesEdgesTest::twelveMoves, b -> b.addMove(22, 23));
        CHECK.thrown("7 a thirteenth, as the first", Check.STATE, CablesEdgesTest::twelveMoves, b -> b.addMove(0, 1));
        CableBook book = twelveMoves();
        Check.outcome(() -> book.addMove(22, 23));
        CHECK.due("7 twelve are left", book.dropPlan(), 12);
        CHECK.due("7 then there is room", book.addMove(22, 23), 1);
    }

    /**
     * Promise 7: "`a`: a port", "`b`: a port": no more is asked of a move, and what is not possible is refused
     * by promise 9 alone: "Throws `IllegalStateException` if it is not possible".
     */
    private static void moveNeedsNotBePossible() {
        CableBook book = oneCable();
        CHECK.due("7 no cable at a", book.addMove(5, 6), 1);
        CHECK.due("7 b taken", book.addMove(0, 23), 2);
        CHECK.due("7 a twice", book.addMove(0, 7), 3);
        CHECK.due("7 b twice", book.addMove(23, 7), 4);
        CHECK.due("7 the same move", book.addMove(23, 7), 5);
        CHECK.due("7 and back", book.addMove(7, 23), 6);
    }

    /**
     * Promise 7, Terms: "If several exceptions apply, the one that is named first in the throws
     * clause is thrown."
     */
    private static void moveFirstNamedException() {
        CHECK.thrown("7 all apply", Check.INDEX, CablesEdgesTest::twelveMoves, b -> b.addMove(24, 24));
        CHECK.thrown("7 no port, the same", Check.INDEX, CablesEdgesTest::oneCable, b -> b.addMove(-1, -1));
        CHECK.thrown("7 no a, full", Check.INDEX, CablesEdgesTest::twelveMoves, b -> b.addMove(-1, 0));
        CHECK.thrown("7 no b, full", Check.INDEX, CablesEdgesTest::twelveMoves, b -> b.addMove(0, 24));
        CHECK.thrown("7 the same, full", Check.ARGUMENT, CablesEdgesTest::twelveMoves, b -> b.addMove(23, 23));
    }

    /** Promise 8: "Returns how many moves it had." */
    private static void dropReturnsHowMany() {
        for (int moves = 1; moves <= 12; moves++) {
            CableBook book = Rooms.pair();
            for (int i = 0; i < moves; i++) {
                book.addMove(i, 23 - i);
            }
            CHECK.due("8 of " + moves, book.dropPlan(), moves);
            CHECK.due("8 of " + moves + ", none is left", book.dropPlan(), 0);
        }
    }

    /** Promise 8: "Returns how many moves it had.": none. */
    private static void dropOfNoMoves() {
        CHECK.due("8 a new object", new CableBook().dropPlan(), 0);
        CableBook refused = Rooms.pair();
        Check.outcome(() -> refused.addMove(3, 3));
        CHECK.due("8 a refused move is none", refused.dropPlan(), 0);
        CableBook done = twelveMoves();
        done.carryOut();
        CHECK.due("8 a plan that was carried out", done.dropPlan(), 0);
    }

    /** Promise 8: "Drops the plan.": no move of it is done, then or later. */
    private static void dropDoesNothing() {
        CableBook book = twelveMoves();
        book.dropPlan();
        CHECK.due("8 the cables stay", book.byCable(0) * 100 + book.byCable(11), 1223);
        CHECK.due("8 a plan without moves", book.carryOut(), 0);
        CHECK.due("8 they stay still", book.byCable(0) * 100 + book.byCable(11), 1223);
        book.pull(1);
        book.addMove(0, 1);
        CHECK.due("8 only what came later", book.carryOut(), 1);
        CHECK.due("8 is done", book.byCable(1) * 100 + book.byCable(11), 1223);
    }

    /** The pair, and a cable of colour 4 from its first port to its last. */
    private static CableBook oneCable() {
        CableBook book = Rooms.pair();
        book.plug(0, 23, 4);
        return book;
    }

    private static CableBook pulled() {
        CableBook book = oneCable();
        book.pull(0);
        return book;
    }

    /** Not possible before a twelfth move from 11 to 0 is added. */
    private static CableBook elevenMoves() {
        CableBook book = Rooms.pairFullOfCables();
        for (int i = 0; i < 11; i++) {
            book.addMove(i, i + 1);
        }
        return book;
    }

    private static CableBook twelveMoves() {
        CableBook book = elevenMoves();
        book.addMove(11, 0);
        return book;
    }
}
