import java.util.ArrayList;
import java.util.List;

/**
 * Promises 7 to 9, 12 and 14 to 29 without draws: some small rooms in every state that their cables
 * and broken strands can have, and every plan of up to three moves among five ports, as the model answers.
 */
public final class SmallRoomsTest {
    /** Panels as {rack, ports}, trunks as {from, to, strands, length}. */
    private record Layout(int[][] panels, int[][] trunks) { }

    private static final List<Layout> LAYOUTS = List.of(
            new Layout(new int[][] {{0, 2}, {0, 2}}, new int[][] {{0, 2, 2, 5}}),
            new Layout(new int[][] {{1, 3}, {5, 3}}, new int[][] {{0, 4, 2, 10}, {3, 2, 1, 3}}),
            new Layout(new int[][] {{0, 2}, {1, 2}, {2, 2}}, new int[][] {{0, 2, 1, 1}, {3, 4, 1, 2}, {5, 1, 1, 4}}),
            new Layout(new int[][] {{3, 2}, {3, 1}, {9, 3}}, new int[][] {{0, 3, 2, 500}, {2, 5, 1, 1}}),
            new Layout(new int[][] {{0, 4}, {0, 2}}, new int[][] {{4, 2, 2, 9}}));
    private static final Layout FOR_PLANS = new Layout(new int[][] {{0, 2}, {0, 1}, {6, 2}}, new int[0][]);
    private static final int PLAN_PORTS = 5;
    private static final int MOST_MOVES = 3;
    private static final int MOST_PRINTED = 20;

    private static int wrong = 0;

    private final CableBook book = new CableBook();
    private final ModelBook model = new ModelBook();
    private final StringBuilder calls = new StringBuilder();

    private SmallRoomsTest(Layout layout) {
        for (int[] panel : layout.panels()) {
            due("addPanel", book.addPanel(panel[0], panel[1]), model.addPanel(panel[0], panel[1]), panel);
        }
        for (int[] trunk : layout.trunks()) {
            due("addTrunk", book.addTrunk(trunk[0], trunk[1], trunk[2], trunk[3]),
                    model.addTrunk(trunk[0], trunk[1], trunk[2], trunk[3]), trunk);
        }
    }

    public static void main(String[] args) {
        for (Layout layout : LAYOUTS) {
            allStates(layout);
        }
        allPlans();
        System.out.println(wrong == 0 ? "all answers are as due" : wrong + " answers are not as due");
        if (wrong != 0) {
            System.exit(1);
        }
    }

    private static void allStates(Layout layout) {
        int ports = new SmallRoomsTest(layout).model.ports();
        int strands = 0;
        for (int[] trunk : layout.trunks()) {
            strands += trunk[2];
        }
        for (List<int[]> cables : allCablings(0, ports, new boolean[ports])) {
            for (int broken = 0; broken < 1 << strands; broken++) {
                SmallRoomsTest room = new SmallRoomsTest(layout);
                room.plugAll(cables);
                room.breakStrands(layout, broken);
                room.askOfPorts();
                room.askOfPairs();
                room.askOfRoom(layout);
            }
        }
    }

    /** Every way in which cables can be plugged at the ports from the given one on that are not taken. */
    private static List<List<int[]>> allCablings(int port, int ports, boolean[] taken) {
        List<List<int[]>> all = new ArrayList<>();
        if (port >= ports) {
            all.add(new ArrayList<>());
            return all;
        }
        all.addAll(allCablings(port + 1, ports, taken));
        if (taken[port]) {
            return all;
        }
        for (int other = port + 1; other < ports; other++) {
            if (!taken[other]) {
                taken[other] = true;
                for (List<int[]> rest : allCablings(port + 1, ports, taken)) {
                    // Now from the lower end, now from the higher one.
                    rest.add(rest.size() % 2 == 0 ? new int[] {port, other} : new int[] {other, port});
                    all.add(rest);
                }
                taken[other] = false;
            }
        }
        return all;
    }

    private void plugAll(List<int[]> cables) {
        for (int[] cable : cables) {
            int colour = 1 + (cable[0] + 2 * cable[1]) % 9;
            due("plug", book.plug(cable[0], cable[1], colour), model.plug(cable[0], cable[1], colour),
                    cable[0], cable[1], colour);
        }
    }

    private void breakStrands(Layout layout, int broken) {
        int left = broken;
        for (int trunk = 0; trunk < layout.trunks().length; trunk++) {
            for (int strand = 0; strand < layout.trunks()[trunk][2]; strand++) {
                boolean isBroken = left % 2 == 1;
                due("setBroken", book.setBroken(trunk, strand, isBroken) ? 1 : 0,
                        model.setBroken(trunk, strand, isBroken) ? 1 : 0, trunk, strand, isBroken ? 1 : 0);
                left /= 2;
            }
        }
    }

    private void askOfPorts() {
        for (int port = 0; port < model.ports(); port++) {
            due("byCable", book.byCable(port), model.byCable(port), port);
            due("byStrand", book.byStrand(port), model.byStrand(port), port);
            due("colour", book.colour(port), model.colour(port), port);
            due("isRing", book.isRing(port) ? 1 : 0, model.isRing(port) ? 1 : 0, port);
            askOfTrace(port, true);
            askOfTrace(port, false);
        }
    }

    private void askOfTrace(int port, boolean cable) {
        int first = cable ? 1 : 0;
        int hops = model.hops(port, cable);
        due("end", book.end(port, cable), model.end(port, cable), port, first);
        due("hops", book.hops(port, cable), hops, port, first);
        due("lengthOf", book.lengthOf(port, cable), model.lengthOf(port, cable), port, first);
        for (int hop = 0; hop < hops; hop++) {
            due("hopTo", book.hopTo(port, cable, hop), model.hopTo(port, cable, hop), port, first, hop);
        }
    }

    private void askOfPairs() {
        for (int a = 0; a < model.ports(); a++) {
            for (int b = 0; b < model.ports(); b++) {
                int joined = model.areJoined(a, b) ? 1 : 0;
                due("areJoined", book.areJoined(a, b) ? 1 : 0, joined, a, b);
                due("areJoinedBySearch", book.areJoinedBySearch(a, b) ? 1 : 0, joined, a, b);
            }
        }
    }

    private void askOfRoom(Layout layout) {
        due("cables", book.cables(), model.cables());
        due("cableLength", book.cableLength(), model.cableLength());
        due("lines", book.lines(), model.lines());
        for (int panel = 0; panel < layout.panels().length; panel++) {
            due("freePort", book.freePort(panel), model.freePort(panel), panel);
            for (int other = 0; other < layout.panels().length; other++) {
                due("freeStrand", book.freeStrand(panel, other), model.freeStrand(panel, other), panel, other);
            }
        }
        for (int trunk = 0; trunk < layout.trunks().length; trunk++) {
            due("used", book.used(trunk), model.used(trunk), trunk);
        }
    }

    private static void allPlans() {
        for (List<int[]> cables : allCablings(0, PLAN_PORTS, new boolean[PLAN_PORTS])) {
            allPlansFrom(cables, new ArrayList<>());
        }
    }

    private static void allPlansFrom(List<int[]> cables, List<int[]> moves) {
        SmallRoomsTest room = new SmallRoomsTest(FOR_PLANS);
        room.plugAll(cables);
        room.carryOut(moves);
        for (int a = 0; a < PLAN_PORTS && moves.size() < MOST_MOVES; a++) {
            for (int b = 0; b < PLAN_PORTS; b++) {
                if (a != b) {
                    moves.add(new int[] {a, b});
                    allPlansFrom(cables, moves);
                    moves.remove(moves.size() - 1);
                }
            }
        }
    }

    private void carryOut(List<int[]> moves) {
        for (int[] move : moves) {
            due("addMove", book.addMove(move[0], move[1]), model.addMove(move[0], move[1]), move);
        }
        boolean possible = model.canCarryOut();
        due("canCarryOut", book.canCarryOut() ? 1 : 0, possible ? 1 : 0);
        // -1 stands for the exception.
        due("carryOut", carriedOut(), possible ? model.carryOut() : -1);
        for (int port = 0; port < PLAN_PORTS; port++) {
            due("byCable", book.byCable(port), model.byCable(port), port);
            due("colour", book.colour(port), model.colour(port), port);
        }
        due("cables", book.cables(), model.cables());
        due("cableLength", book.cableLength(), model.cableLength());
        due("dropPlan", book.dropPlan(), model.dropPlan());
    }

    private int carriedOut() {
        try {
            return book.carryOut();
        } catch (IllegalStateException e) {
            return -1;
        }
    }

    private void due(String call, int got, int want, int... arguments) {
        if (got == want && !isChange(call)) {
            return;
        }
        StringBuilder told = new StringBuilder(call).append('(');
        for (int i = 0; i < arguments.length; i++) {
            told.append(i == 0 ? "" : ", ").append(arguments[i]);
        }
        told.append(") ");
        if (got != want && wrong++ < MOST_PRINTED) {
            System.out.println(calls.toString() + told + "answered " + got + ", due is " + want);
        }
        calls.append(told);
    }

    /** Only calls that change the book are told again before a wrong answer. */
    private static boolean isChange(String call) {
        return call.startsWith("add") || call.equals("plug") || call.equals("setBroken") || call.equals("carryOut");
    }
}
