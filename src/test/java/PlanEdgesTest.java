/** The edges of promises 9 and 28: each test says which sentence of the document it holds. */
public final class PlanEdgesTest {
    private static final Check CHECK = new Check();

    public static void main(String[] args) {
        planWithoutMoves();
        hasNoMovesThen();
        hasNoMovesOfAnEarlierPlan();
        returnsHowManyWereDone();
        cableAtEachA();
        allADifferent();
        allBDifferent();
        eachBWithoutCable();
        bothEndsAtOnePort();
        allAtTheSameTimeInACircle();
        allAtTheSameTimeInAChain();
        bothEndsOfACable();
        cableLengthAndColourGoAlong();
        twelveMovesInACircle();
        twelveMovesOneOfThemWrong();
        refusedKeepsThePlan();
        possibleNow();
        canCarryOutChangesNothing();
        CHECK.finish();
    }

    /** Promises 9 and 28, Terms: "(a plan without moves is possible)". */
    private static void planWithoutMoves() {
        CableBook empty = new CableBook();
        CHECK.due("28 a new object", empty.canCarryOut(), true);
        CHECK.due("9 a new object", empty.carryOut(), 0);
        duePossible("no moves");
        CableBook dropped = Rooms.plan(cabled(), 8, 9);
        CHECK.due("28 before it is dropped", dropped.canCarryOut(), false);
        dropped.dropPlan();
        CHECK.due("28 dropped", dropped.canCarryOut(), true);
        CHECK.due("9 dropped", dropped.carryOut(), 0);
    }

    /** Promise 9: "Carries the plan out; it has no moves then." */
    private static void hasNoMovesThen() {
        CableBook book = Rooms.plan(cabled(), 0, 3);
        book.carryOut();
        CHECK.due("9 nothing is left to do", book.carryOut(), 0);
        CHECK.due("9 the move was done once", book.byCable(3), 1);
        CHECK.due("9 nothing is left to drop", book.dropPlan(), 0);
        CHECK.due("9 the next move is the first", book.addMove(3, 0), 1);
    }

    /** Promise 9: "Carries the plan out; it has no moves then."; promise 8: "Drops the plan." */
    private static void hasNoMovesOfAnEarlierPlan() {
        CableBook freed = Rooms.plan(cabled(), 0, 3, 4, 8);
        freed.dropPlan();
        freed.addMove(0, 4);
        CHECK.due("28 a dropped move frees no port", freed.canCarryOut(), false);
        CHECK.due("9 a dropped move frees no port", Check.outcome(freed::carryOut), "IllegalStateException");
        CableBook moved = Rooms.plan(cabled(), 0, 3, 1, 8);
        moved.dropPlan();
        moved.addMove(0, 3);
        CHECK.due("9 one move", moved.carryOut(), 1);
        dueCable("9 a dropped move does not move the other end", moved, 3, 1, 1);
        CableBook done = Rooms.plan(cabled(), 4, 8, 0, 3);
        done.carryOut();
        done.addMove(5, 3);
        CHECK.due("28 a move that was done frees no port", done.canCarryOut(), false);
        done.dropPlan();
        done.addMove(5, 9);
        CHECK.due("9 one move after those", done.carryOut(), 1);
        dueCable("9 from where the cable lies now", done, 9, 8, 2);
        CableBook repeated = Rooms.plan(cabled(), 0, 3, 4, 8);
        repeated.dropPlan();
        Rooms.plan(repeated, 4, 8, 0, 3);
        CHECK.due("28 dropped moves are not the same as new ones", repeated.canCarryOut(), true);
        CHECK.due("9 dropped moves are not the same as new ones", repeated.carryOut(), 2);
    }

    /** Promise 9: "Returns how many moves were done." */
    private static void returnsHowManyWereDone() {
        for (int moves = 0; moves <= 12; moves++) {
            CableBook book = Rooms.panels(3, 12);
            for (int i = 0; i < moves; i++) {
                book.plug(i, 12 + i, 1);
                book.addMove(i, 24 + i);
            }
            CHECK.due("9 of " + moves, book.carryOut(), moves);
            CHECK.due("9 of " + moves + ", cables", book.cables(), moves);
        }
    }

    /** Promises 9 and 28, Terms: "That is possible if there is a cable at each a". */
    private static void cableAtEachA() {
        dueImpossible("no cable at a", 3, 8);
        dueImpossible("no cable at a, b taken", 3, 0);
        dueImpossible("no cable at the first a", 3, 8, 0, 9);
        dueImpossible("no cable at the last a", 0, 9, 3, 8);
        dueImpossible("a cable comes to a only by another move", 0, 3, 3, 8);
        dueImpossible("a strand at a is no cable", 11, 8);
        duePossible("a cable at the first end and at the last port", 0, 3, 7, 8);
    }

    /** Promises 9 and 28, Terms: "all a are different". */
    private static void allADifferent() {
        dueImpossible("a twice, next to each other", 0, 3, 0, 8);
        dueImpossible("a twice, first and last", 0, 3, 4, 8, 0, 9);
        dueImpossible("the same move twice", 0, 3, 0, 3);
        duePossible("both ends of one cable are different", 0, 3, 1, 8);
    }

    /** Promises 9 and 28, Terms: "all b are different". */
    private static void allBDifferent() {
        dueImpossible("b twice, next to each other", 0, 3, 4, 3);
        dueImpossible("b twice, first and last", 0, 3, 4, 8, 6, 3);
        dueImpossible("b twice, a port that becomes free", 0, 3, 4, 0, 6, 0);
        duePossible("an a may be another's b", 0, 3, 4, 0);
    }

    /** Promises 9 and 28, Terms: "each b has no cable once the ends are pulled". */
    private static void eachBWithoutCable() {
        dueImpossible("b taken", 0, 4);
        dueImpossible("b taken by the other end of the same cable", 0, 1);
        dueImpossible("the first b is taken", 0, 5, 6, 3);
        dueImpossible("the last b is taken", 6, 3, 0, 5);
        dueImpossible("only the end that is moved is pulled, not the other", 4, 3, 0, 5);
        duePossible("b is free", 0, 3);
        duePossible("b becomes free by a later move", 0, 4, 4, 3);
        duePossible("b becomes free by an earlier move", 4, 3, 0, 4);
        duePossible("b has a strand", 0, 11);
    }

    /** Promises 9 and 28, Terms: "no cable would have both ends at the same port". */
    private static void bothEndsAtOnePort() {
        dueImpossible("one end to where the other one stays", 0, 1);
        dueImpossible("backwards", 1, 0);
        dueImpossible("both ends to a third port", 0, 3, 1, 3);
        dueImpossible("both ends to a port that becomes free", 0, 4, 1, 4, 4, 3);
        duePossible("one end to where the other one was", 0, 1, 1, 3);
    }

    /**
     * Promise 9, Terms: "When the plan is carried out, all moves are done at the same time: first all
     * these ends are pulled, then all are plugged.": round in a circle.
     */
    private static void allAtTheSameTimeInACircle() {
        CableBook two = Rooms.plan(cabled(), 0, 4, 4, 0);
        CHECK.due("9 two change places", two.carryOut(), 2);
        dueCable("9 the first of two", two, 4, 1, 1);
        dueCable("9 the second of two", two, 0, 5, 2);
        CableBook three = Rooms.plan(cabled(), 0, 4, 4, 7, 7, 0);
        CHECK.due("9 three in a circle", three.carryOut(), 3);
        dueCable("9 the first of three", three, 4, 1, 1);
        dueCable("9 the second of three", three, 7, 5, 2);
        dueCable("9 the third of three", three, 0, 6, 3);
        CableBook twoCircles = Rooms.plan(cabled(), 0, 4, 1, 5, 4, 0, 5, 1);
        CHECK.due("9 two cables change places at both ends", twoCircles.carryOut(), 4);
        dueCable("9 the first cable", twoCircles, 4, 5, 1);
        dueCable("9 the second cable", twoCircles, 0, 1, 2);
    }

    /**
     * Promise 9, Terms: "When the plan is carried out, all moves are done at the same time: first all
     * these ends are pulled, then all are plugged.": in a chain, told forwards and backwards.
     */
    private static void allAtTheSameTimeInAChain() {
        int[][] orders = {{0, 4, 4, 7, 7, 3}, {7, 3, 4, 7, 0, 4}, {4, 7, 0, 4, 7, 3}};
        for (int[] moves : orders) {
            CableBook book = Rooms.plan(cabled(), moves);
            String what = "9 chain from " + moves[0];
            CHECK.due(what, book.carryOut(), 3);
            CHECK.due(what + ", its first port is free", book.byCable(0) + book.colour(0), -1);
            dueCable(what + ", the first", book, 4, 1, 1);
            dueCable(what + ", the second", book, 7, 5, 2);
            dueCable(what + ", the third", book, 3, 6, 3);
        }
    }

    /** Promise 9, Terms: "the end of a cable that is at a is to be plugged at b": both ends of one cable. */
    private static void bothEndsOfACable() {
        CableBook apart = Rooms.plan(cabled(), 0, 3, 1, 8);
        CHECK.due("9 both ends to free ports", apart.carryOut(), 2);
        dueCable("9 joins them", apart, 3, 8, 1);
        CHECK.due("9 both old ports are free", apart.byCable(0) + apart.byCable(1), -2);
        CableBook after = Rooms.plan(cabled(), 0, 1, 1, 3);
        CHECK.due("9 one after the other", after.carryOut(), 2);
        dueCable("9 moved on", after, 1, 3, 1);
        CHECK.due("9 only its first port is free", after.byCable(0), -1);
        CableBook before = Rooms.plan(cabled(), 1, 3, 0, 1);
        CHECK.due("9 told backwards", before.carryOut(), 2);
        dueCable("9 moved on, too", before, 1, 3, 1);
        CableBook turned = Rooms.plan(cabled(), 0, 1, 1, 0);
        CHECK.due("9 turned round", turned.carryOut(), 2);
        dueCable("9 lies as before", turned, 0, 1, 1);
        CHECK.due("9 no cable is lost", turned.cables(), 3);
    }

    /** Promise 9, Terms: "The length of a cable is 1 if both ports are of the same panel": its new ports count. */
    private static void cableLengthAndColourGoAlong() {
        CableBook book = Rooms.plan(cabled(), 1, 8);
        CHECK.due("9 all in one panel", book.cableLength(), 3);
        CHECK.due("9 one end to the next rack", book.carryOut(), 1);
        CHECK.due("9 the new length", book.cableLength(), 2 + 5);
        dueCable("9 the old colour", book, 0, 8, 1);
        CHECK.due("9 no colour where it was", book.colour(1), 0);
    }

    /**
     * Promise 9, Terms: "A plan is a row of moves, at most 12": all twelve, the last into the place of the first.
     */
    private static void twelveMovesInACircle() {
        CableBook book = Rooms.pairFullOfCables();
        for (int i = 0; i < 12; i++) {
            book.addMove(i, (i + 1) % 12);
        }
        CHECK.due("28 a full plan", book.canCarryOut(), true);
        CHECK.due("9 a full plan", book.carryOut(), 12);
        for (int i = 0; i < 12; i++) {
            dueCable("9 cable " + i, book, (i + 1) % 12, 12 + i, 1 + i % 9);
        }
    }

    /**
     * Promises 9 and 28, Terms: "That is possible if there is a cable at each a, all a are different, all b are
     * different".
     */
    private static void twelveMovesOneOfThemWrong() {
        dueTwelve("all are possible", true, 11, 35);
        dueTwelve("the twelfth has no cable", false, 34, 35);
        dueTwelve("the twelfth has the first a", false, 0, 35);
        dueTwelve("the twelfth has the eleventh a", false, 10, 35);
        dueTwelve("the twelfth has the first b", false, 11, 24);
        dueTwelve("the twelfth has the eleventh b", false, 11, 34);
        dueTwelve("the twelfth goes to a port that is taken", false, 11, 23);
        dueTwelve("the twelfth goes to a port that the first one leaves", true, 11, 0);
    }

    /**
     * Promise 9: "Throws `IllegalStateException` if it is not possible"; Terms: "A call that throws an exception
     * changes nothing."
     */
    private static void refusedKeepsThePlan() {
        CableBook book = Rooms.plan(cabled(), 4, 8, 0, 3, 9, 10);
        CHECK.due("9 refused", Check.outcome(book::carryOut), "IllegalStateException");
        dueCable("9 the first move is not done", book, 4, 5, 2);
        dueCable("9 nor is the second", book, 0, 1, 1);
        CHECK.due("9 refused again", Check.outcome(book::carryOut), "IllegalStateException");
        book.plug(9, 2, 8);
        CHECK.due("9 all moves were kept", book.carryOut(), 3);
        dueCable("9 the first is done", book, 8, 5, 2);
        dueCable("9 the second is done", book, 3, 1, 1);
        dueCable("9 the third is done", book, 10, 2, 8);
    }

    /** Promise 28: "Tells whether the plan could be carried out now." */
    private static void possibleNow() {
        CableBook book = Rooms.plan(cabled(), 0, 3);
        CHECK.due("28 possible", book.canCarryOut(), true);
        book.plug(3, 8, 1);
        CHECK.due("28 b is taken now", book.canCarryOut(), false);
        book.pull(8);
        CHECK.due("28 b is free again", book.canCarryOut(), true);
        book.pull(1);
        CHECK.due("28 a has no cable now", book.canCarryOut(), false);
        book.plug(0, 8, 1);
        CHECK.due("28 a has another one", book.canCarryOut(), true);
        book.addMove(4, 8);
        CHECK.due("28 with a move that is not possible", book.canCarryOut(), false);
        book.addMove(8, 9);
        CHECK.due("28 with one that makes it possible", book.canCarryOut(), true);
    }

    /** Promise 28, Terms: "nothing from here on changes anything". */
    private static void canCarryOutChangesNothing() {
        CHECK.unchanged("28 possible", () -> Rooms.plan(cabled(), 0, 3, 4, 0), CableBook::canCarryOut);
        CHECK.unchanged("28 impossible", () -> Rooms.plan(cabled(), 0, 3, 0, 8), CableBook::canCarryOut);
    }

    private static void duePossible(String what, int... moves) {
        CableBook book = Rooms.plan(cabled(), moves);
        CHECK.due("28 " + what, book.canCarryOut(), true);
        CHECK.due("9 " + what, book.carryOut(), moves.length / 2);
    }

    private static void dueImpossible(String what, int... moves) {
        CHECK.due("28 " + what, Rooms.plan(cabled(), moves).canCarryOut(), false);
        CHECK.thrown("9 " + what, Check.STATE, () -> Rooms.plan(cabled(), moves), CableBook::carryOut);
        CableBook book = Rooms.plan(cabled(), moves);
        Check.outcome(book::carryOut);
        CHECK.due("9 " + what + ": the moves are kept", book.dropPlan(), moves.length / 2);
    }

    /** Eleven moves from 0 .. 10 to 24 .. 34, which are possible, and a twelfth. */
    private static void dueTwelve(String what, boolean possible, int a, int b) {
        CableBook book = Rooms.panels(3, 12);
        for (int i = 0; i < 12; i++) {
            book.plug(i, 12 + i, 1);
        }
        for (int i = 0; i < 11; i++) {
            book.addMove(i, 24 + i);
        }
        book.addMove(a, b);
        CHECK.due("28 " + what, book.canCarryOut(), possible);
        CHECK.due("9 " + what, Check.outcome(book::carryOut), possible ? "nothing" : "IllegalStateException");
    }

    private static void dueCable(String what, CableBook book, int a, int b, int colour) {
        CHECK.due(what + ", at " + a, book.byCable(a), b);
        CHECK.due(what + ", at " + b, book.byCable(b), a);
        CHECK.due(what + ", colour at " + a, book.colour(a), colour);
        CHECK.due(what + ", colour at " + b, book.colour(b), colour);
    }

    /** The ports 0 to 7 in rack 4 and 8 to 11 in rack 5, the cables 0 - 1, 4 - 5 and 6 - 7, the strand 2 = 11. */
    private static CableBook cabled() {
        CableBook book = new CableBook();
        book.addPanel(4, 8);
        book.addPanel(5, 4);
        book.addTrunk(2, 11, 1, 60);
        book.plug(0, 1, 1);
        book.plug(4, 5, 2);
        book.plug(6, 7, 3);
        return book;
    }
}
