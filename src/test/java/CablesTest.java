/** Promises 5 to 9: cables, and plans of moves. */
public final class CablesTest {
    private static final Check CHECK = new Check();

    public static void main(String[] args) {
        promise5Plug();
        promise5PlugThrows();
        promise6Pull();
        promise6PullThrows();
        promise7AddMove();
        promise7AddMoveThrows();
        promise8DropPlan();
        promise9CarryOut();
        promise9CarryOutRoundInACircle();
        promise9CarryOutBothEnds();
        promise9CarryOutTwelve();
        promise9CarryOutThrows();
        CHECK.finish();
    }

    private static void promise5Plug() {
        CableBook book = room();
        CHECK.due("5 same panel", book.plug(1, 0, 1), 1);
        CHECK.due("5 same rack", book.plug(4, 2, 9), 2);
        CHECK.due("5 next rack", book.plug(3, 8, 5), 5);
        CHECK.due("5 racks 3 and 9", book.plug(13, 9, 5), 15);
        CHECK.due("5 racks 2 and 9", book.plug(5, 14, 5), 17);
        CHECK.due("5 the other end", book.byCable(13), 9);
        CHECK.due("5 the other end backwards", book.byCable(9), 13);
        CHECK.due("5 colour at both", book.colour(4) * 100 + book.colour(2), 909);
        CHECK.due("5 cables", book.cables(), 5);
        CHECK.due("5 sum", book.cableLength(), 40);
        CableBook far = new CableBook();
        far.addPanel(9, 1);
        far.addPanel(0, 1);
        CHECK.due("5 racks 9 and 0", far.plug(0, 1, 2), 21);
    }

    private static void promise5PlugThrows() {
        CHECK.thrown("5 a -1", Check.INDEX, CablesTest::room, b -> b.plug(-1, 0, 1));
        CHECK.thrown("5 b -1", Check.INDEX, CablesTest::room, b -> b.plug(0, -1, 1));
        CHECK.thrown("5 a 16", Check.INDEX, CablesTest::room, b -> b.plug(16, 0, 1));
        CHECK.thrown("5 b 16", Check.INDEX, CablesTest::room, b -> b.plug(0, 16, 1));
        CHECK.thrown("5 colour 0", Check.ARGUMENT, CablesTest::room, b -> b.plug(0, 1, 0));
        CHECK.thrown("5 colour 10", Check.ARGUMENT, CablesTest::room, b -> b.plug(0, 1, 10));
        CHECK.thrown("5 colour -1", Check.ARGUMENT, CablesTest::room, b -> b.plug(0, 1, -1));
        CHECK.thrown("5 same port", Check.ARGUMENT, CablesTest::room, b -> b.plug(7, 7, 1));
        CHECK.thrown("5 a taken", Check.STATE, CablesTest::cabled, b -> b.plug(0, 1, 1));
        CHECK.thrown("5 b taken", Check.STATE, CablesTest::cabled, b -> b.plug(1, 2, 1));
        CHECK.thrown("5 both taken by one", Check.STATE, CablesTest::cabled, b -> b.plug(8, 0, 1));
        CHECK.thrown("5 no port, colour wrong", Check.INDEX, CablesTest::room, b -> b.plug(0, 16, 0));
        CHECK.thrown("5 no port twice", Check.INDEX, CablesTest::room, b -> b.plug(16, 16, 1));
        CHECK.thrown("5 no port, a taken", Check.INDEX, CablesTest::cabled, b -> b.plug(0, 16, 1));
        CHECK.thrown("5 taken, colour wrong", Check.ARGUMENT, CablesTest::cabled, b -> b.plug(0, 1, 10));
        CHECK.thrown("5 taken, same port", Check.ARGUMENT, CablesTest::cabled, b -> b.plug(0, 0, 1));
        CHECK.thrown("5 no panels", Check.INDEX, CableBook::new, b -> b.plug(0, 1, 1));
    }

    private static void promise6Pull() {
        CableBook book = cabled();
        CHECK.due("6 by its first end", book.pull(0), 8);
        CHECK.due("6 nothing at the first", book.byCable(0), -1);
        CHECK.due("6 nothing at the other", book.byCable(8), -1);
        CHECK.due("6 no colour at both", book.colour(0) + book.colour(8), 0);
        CHECK.due("6 the others stay", book.byCable(2), 3);
        CHECK.due("6 cables", book.cables(), 2);
        CHECK.due("6 by its second end", book.pull(3), 2);
        CHECK.due("6 nothing at its first end", book.byCable(2), -1);
        CHECK.due("6 both can be plugged again", book.plug(8, 0, 3), 5);
        CHECK.due("6 and pulled again", book.pull(8), 0);
    }

    private static void promise6PullThrows() {
        CHECK.thrown("6 port -1", Check.INDEX, CablesTest::cabled, b -> b.pull(-1));
        CHECK.thrown("6 port 16", Check.INDEX, CablesTest::cabled, b -> b.pull(16));
        CHECK.thrown("6 no cable", Check.STATE, CablesTest::cabled, b -> b.pull(1));
        CHECK.thrown("6 pulled before", Check.STATE, CablesTest::pulled, b -> b.pull(0));
        CHECK.thrown("6 pulled before at the other end", Check.STATE, CablesTest::pulled, b -> b.pull(8));
        CHECK.thrown("6 a strand is no cable", Check.STATE, CablesTest::withTrunk, b -> b.pull(7));
    }

    private static void promise7AddMove() {
        CableBook book = cabled();
        CHECK.due("7 the first", book.addMove(0, 1), 1);
        CHECK.due("7 without a cable", book.addMove(5, 6), 2);
        CHECK.due("7 the same again", book.addMove(0, 1), 3);
        CHECK.due("7 to a port that is taken", book.addMove(0, 2), 4);
        CHECK.due("7 the first and the last port", book.addMove(15, 0), 5);
        CHECK.due("7 moves nothing", book.byCable(0), 8);
        for (int i = 6; i <= 12; i++) {
            CHECK.due("7 move " + i, book.addMove(2, 3), i);
        }
        CHECK.due("7 twelve moves", book.dropPlan(), 12);
    }

    private static void promise7AddMoveThrows() {
        CHECK.thrown("7 a -1", Check.INDEX, CablesTest::planned, b -> b.addMove(-1, 0));
        CHECK.thrown("7 b -1", Check.INDEX, CablesTest::planned, b -> b.addMove(0, -1));
        CHECK.thrown("7 a 16", Check.INDEX, CablesTest::planned, b -> b.addMove(16, 0));
        CHECK.thrown("7 b 16", Check.INDEX, CablesTest::planned, b -> b.addMove(0, 16));
        CHECK.thrown("7 same port", Check.ARGUMENT, CablesTest::planned, b -> b.addMove(2, 2));
        CHECK.thrown("7 a 13th", Check.STATE, CablesTest::fullPlan, b -> b.addMove(14, 15));
        CHECK.thrown("7 no port twice", Check.INDEX, CablesTest::planned, b -> b.addMove(16, 16));
        CHECK.thrown("7 a 13th, no port", Check.INDEX, CablesTest::fullPlan, b -> b.addMove(14, 16));
        CHECK.thrown("7 a 13th, same port", Check.ARGUMENT, CablesTest::fullPlan, b -> b.addMove(14, 14));
    }

    private static void promise8DropPlan() {
        CableBook book = cabled();
        CHECK.due("8 empty", book.dropPlan(), 0);
        book.addMove(0, 1);
        book.addMove(5, 6);
        CHECK.due("8 two moves", book.dropPlan(), 2);
        CHECK.due("8 dropped", book.dropPlan(), 0);
        CHECK.due("8 moves nothing", book.byCable(0), 8);
        CHECK.due("8 nothing is left to do", book.carryOut(), 0);
        CHECK.due("8 counts anew", book.addMove(2, 1), 1);
        CHECK.due("8 only the new one", book.carryOut(), 1);
        CHECK.due("8 the dropped one is not done", book.byCable(0), 8);
        CableBook full = fullPlan();
        CHECK.due("8 a full plan", full.dropPlan(), 12);
        CHECK.due("8 room again", full.addMove(0, 1), 1);
    }

    private static void promise9CarryOut() {
        CableBook book = cabled();
        CHECK.due("9 no moves", book.carryOut(), 0);
        book.addMove(0, 1);
        CHECK.due("9 one move", book.carryOut(), 1);
        CHECK.due("9 is at its new port", book.byCable(1), 8);
        CHECK.due("9 the other end knows", book.byCable(8), 1);
        CHECK.due("9 not at the old one", book.byCable(0), -1);
        CHECK.due("9 colour goes along", book.colour(1), 7);
        CHECK.due("9 colour at the other end", book.colour(8), 7);
        CHECK.due("9 no colour at the old one", book.colour(0), 0);
        CHECK.due("9 no moves then", book.dropPlan(), 0);
        CHECK.due("9 nothing again", book.carryOut(), 0);
        CHECK.due("9 cables", book.cables(), 3);
        book.addMove(8, 6);
        book.addMove(2, 8);
        CHECK.due("9 into a port that becomes free", book.carryOut(), 2);
        CHECK.due("9 the first", book.byCable(6), 1);
        CHECK.due("9 the second", book.byCable(8), 3);
        CHECK.due("9 the length is the new one", book.cableLength(), 2 + 5 + 1);
        book.pull(6);
        book.addMove(3, 0);
        book.addMove(8, 3);
        CHECK.due("9 later moves may free a port, too", book.carryOut(), 2);
        CHECK.due("9 both ends moved on", book.byCable(0), 3);
    }

    private static void promise9CarryOutRoundInACircle() {
        CableBook two = cabled();
        two.addMove(0, 2);
        two.addMove(2, 0);
        CHECK.due("9 two change places", two.carryOut(), 2);
        CHECK.due("9 the first", two.byCable(2), 8);
        CHECK.due("9 the second", two.byCable(0), 3);
        CHECK.due("9 colours", two.colour(2) * 100 + two.colour(0), 702);
        CHECK.due("9 colours at the other ends", two.colour(8) * 100 + two.colour(3), 702);
        CableBook three = cabled();
        three.addMove(0, 2);
        three.addMove(2, 12);
        three.addMove(12, 0);
        CHECK.due("9 three in a circle", three.carryOut(), 3);
        CHECK.due("9 0 goes to 2", three.byCable(2), 8);
        CHECK.due("9 2 goes to 12", three.byCable(12), 3);
        CHECK.due("9 12 goes to 0", three.byCable(0), 13);
        CHECK.due("9 backwards", three.byCable(8) * 10000 + three.byCable(3) * 100 + three.byCable(13), 21200);
        CHECK.due("9 colours", three.colour(2) * 100 + three.colour(12) * 10 + three.colour(0), 724);
    }

    private static void promise9CarryOutBothEnds() {
        CableBook turned = cabled();
        turned.addMove(0, 8);
        turned.addMove(8, 0);
        CHECK.due("9 a cable turned round", turned.carryOut(), 2);
        CHECK.due("9 is where it was", turned.byCable(0) * 100 + turned.byCable(8), 800);
        CHECK.due("9 its colour", turned.colour(0) * 10 + turned.colour(8), 77);
        CableBook moved = cabled();
        moved.addMove(8, 9);
        moved.addMove(0, 1);
        CHECK.due("9 both ends to free ports", moved.carryOut(), 2);
        CHECK.due("9 joins them", moved.byCable(1) * 100 + moved.byCable(9), 901);
        CHECK.due("9 its colour goes along", moved.colour(1) * 10 + moved.colour(9), 77);
        CHECK.due("9 old ports are free", moved.byCable(0) + moved.byCable(8), -2);
        CHECK.due("9 cables", moved.cables(), 3);
        CableBook crossed = cabled();
        crossed.addMove(0, 3);
        crossed.addMove(8, 2);
        crossed.addMove(2, 0);
        crossed.addMove(3, 8);
        CHECK.due("9 two cables, all four ends", crossed.carryOut(), 4);
        CHECK.due("9 the first", crossed.byCable(3) * 10 + crossed.byCable(2), 23);
        CHECK.due("9 the second", crossed.byCable(0) * 10 + crossed.byCable(8), 80);
        CHECK.due("9 their colours", crossed.colour(3) * 10 + crossed.colour(8), 72);
    }

    private static void promise9CarryOutTwelve() {
        CableBook book = twelveInACircle();
        CHECK.due("9 twelve in a circle", book.carryOut(), 12);
        for (int i = 0; i < 12; i++) {
            int next = (i + 1) % 12;
            CHECK.due("9 circle " + i, book.byCable(next), 12 + i);
            CHECK.due("9 circle colour " + i, book.colour(next), 1 + i % 9);
        }
    }

    private static void promise9CarryOutThrows() {
        thrownByPlan("9 no cable at a", 1, 4);
        thrownByPlan("9 b taken", 0, 2);
        thrownByPlan("9 b is the other end", 0, 8);
        thrownByPlan("9 a twice", 0, 1, 0, 4);
        thrownByPlan("9 a twice, another between", 0, 1, 2, 4, 0, 5);
        thrownByPlan("9 b twice", 0, 1, 2, 1);
        thrownByPlan("9 b twice, of one cable", 0, 1, 8, 1);
        thrownByPlan("9 the same move twice", 0, 1, 0, 1);
        thrownByPlan("9 the first is possible, the last is not", 0, 1, 2, 4, 6, 7);
        thrownByPlan("9 the first is not possible", 6, 7, 0, 1);
        thrownByPlan("9 into the end that stays", 0, 1, 2, 8);
        thrownByPlan("9 a move is not done before the other", 0, 1, 1, 4);
        CHECK.thrown("9 a was pulled since", Check.STATE, CablesTest::plannedAndPulled, CableBook::carryOut);
        CableBook kept = plannedAndPulled();
        Check.outcome(kept::carryOut);
        kept.plug(0, 9, 1);
        CHECK.due("9 the plan is kept", kept.carryOut(), 1);
        CHECK.due("9 and done later", kept.byCable(1), 9);
    }

    private static void thrownByPlan(String what, int... moves) {
        CHECK.thrown(what, Check.STATE, () -> plan(cabled(), moves), CableBook::carryOut);
        CableBook book = plan(cabled(), moves);
        Check.outcome(book::carryOut);
        CHECK.due(what + ": the plan is kept", book.dropPlan(), moves.length / 2);
    }

    private static CableBook plan(CableBook book, int... moves) {
        for (int i = 0; i + 1 < moves.length; i += 2) {
            book.addMove(moves[i], moves[i + 1]);
        }
        return book;
    }

    /** Panels of four ports each, in the racks 2, 2, 3 and 9. */
    private static CableBook room() {
        CableBook book = new CableBook();
        book.addPanel(2, 4);
        book.addPanel(2, 4);
        book.addPanel(3, 4);
        book.addPanel(9, 4);
        return book;
    }

    private static CableBook cabled() {
        CableBook book = room();
        book.plug(0, 8, 7);
        book.plug(2, 3, 2);
        book.plug(12, 13, 4);
        return book;
    }

    private static CableBook pulled() {
        CableBook book = cabled();
        book.pull(8);
        return book;
    }

    private static CableBook withTrunk() {
        CableBook book = cabled();
        book.addTrunk(6, 10, 2, 100);
        return book;
    }

    private static CableBook planned() {
        return plan(cabled(), 0, 1, 2, 4);
    }

    private static CableBook plannedAndPulled() {
        CableBook book = plan(cabled(), 0, 1);
        book.pull(0);
        return book;
    }

    /** Twelve moves that are possible together. */
    private static CableBook fullPlan() {
        return plan(room12(), 0, 1, 1, 2, 2, 3, 3, 4, 4, 5, 5, 6, 6, 7, 7, 8, 8, 9, 9, 10, 10, 11, 11, 0);
    }

    private static CableBook room12() {
        CableBook book = room();
        for (int i = 0; i < 12; i += 2) {
            book.plug(i, i + 1, 1 + i / 2);
        }
        return book;
    }

    private static CableBook twelveInACircle() {
        CableBook book = new CableBook();
        book.addPanel(0, 12);
        book.addPanel(5, 12);
        for (int i = 0; i < 12; i++) {
            book.plug(i, 12 + i, 1 + i % 9);
            book.addMove(i, (i + 1) % 12);
        }
        return book;
    }
}
