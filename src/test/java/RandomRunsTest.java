import java.util.ArrayList;
import java.util.List;
import java.util.function.Supplier;

/** Promises 1 to 29 at once: runs of up to 512 calls, each answered by the book and by the model. */
public final class RandomRunsTest {
    private static final int RUNS = 3000;
    private static final int CALLS = 512;
    private static final int MOST_PRINTED = 20;

    private static int wrong = 0;

    private final Draws random;
    private final CableBook book = new CableBook();
    private final ModelBook model = new ModelBook();
    private final List<String> calls = new ArrayList<>();
    private final int panelsAimedAt;
    private final int trunksAimedAt;
    private final int portsPerPanel;
    private int panels = 0;

    private RandomRunsTest(long seed) {
        random = new Draws(seed);
        panelsAimedAt = 2 + random.nextInt(random.nextInt(4) == 0 ? 12 : 4);
        trunksAimedAt = 1 + random.nextInt(11);
        portsPerPanel = 1 + random.nextInt(12);
    }

    public static void main(String[] args) {
        for (int seed = 0; seed < RUNS && wrong < MOST_PRINTED; seed++) {
            new RandomRunsTest(seed).run();
        }
        System.out.println(wrong == 0 ? "all answers are as due" : wrong + " answers are not as due");
        if (wrong != 0) {
            System.exit(1);
        }
    }

    private void run() {
        int before = wrong;
        while (calls.size() < CALLS && wrong == before) {
            if (panels < panelsAimedAt && random.nextInt(3) > 0) {
                addPanel();
            } else if (model.trunks() < trunksAimedAt && random.nextInt(4) == 0) {
                addTrunk();
            } else if (random.nextInt(25) == 0) {
                wholePlan();
            } else if (random.nextInt(2) == 0) {
                change();
            } else if (random.nextInt(3) == 0) {
                askOfAll();
            } else {
                askOfPort();
            }
        }
    }

    private void compare(String call, Supplier<Object> ofBook, Supplier<Object> ofModel) {
        calls.add(call);
        if (calls.size() > CALLS) {
            return;
        }
        String got = answer(ofBook);
        String want = answer(ofModel);
        if (!got.equals(want)) {
            wrong++;
            System.out.println(String.join(" ", calls) + " answered " + got + ", due is " + want);
        }
    }

    private static String answer(Supplier<Object> call) {
        try {
            return call.get().toString();
        } catch (RuntimeException e) {
            return "throws." + e.getClass().getSimpleName();
        }
    }

    /** Mostly from 0 to below the count, seldom beside that or far from it. */
    private int number(int count) {
        int kind = random.nextInt(60);
        if (kind == 0) {
            return -1;
        }
        if (kind == 1) {
            return count;
        }
        if (kind == 2) {
            return random.nextInt();
        }
        return count > 0 ? random.nextInt(count) : 0;
    }

    private int port() {
        return number(model.ports());
    }

    private int portWithCable() {
        int port = port();
        for (int i = 0; i < 10 && !hasCable(port); i++) {
            port = port();
        }
        return port;
    }

    private boolean hasCable(int port) {
        return port >= 0 && port < model.ports() && model.byCable(port) >= 0;
    }

    private void addPanel() {
        int rack = number(10);
        int count = random.nextInt(20) == 0 ? number(14) : portsPerPanel;
        compare("addPanel(" + rack + ", " + count + ")",
                () -> book.addPanel(rack, count), () -> model.addPanel(rack, count));
        panels++;
    }

    private void addTrunk() {
        int from = port();
        int to = port();
        int strands = random.nextInt(3) == 0 ? number(14) : 1 + random.nextInt(3);
        int length = random.nextInt(9) == 0 ? number(502) : 1 + random.nextInt(500);
        compare("addTrunk(" + from + ", " + to + ", " + strands + ", " + length + ")",
                () -> book.addTrunk(from, to, strands, length), () -> model.addTrunk(from, to, strands, length));
    }

    private void change() {
        int a = port();
        int b = port();
        int c = portWithCable();
        int trunk = number(model.trunks());
        int strand = number(3);
        boolean broken = random.nextInt(3) == 0;
        int colour = random.nextInt(9) == 0 ? number(11) : 1 + random.nextInt(9);
        switch (random.nextInt(12)) {
            case 0 -> compare("pull(" + c + ")", () -> book.pull(c), () -> model.pull(c));
            case 1 -> compare("addMove(" + a + ", " + b + ")", () -> book.addMove(a, b), () -> model.addMove(a, b));
            case 2 -> compare("addMove(" + c + ", " + b + ")", () -> book.addMove(c, b), () -> model.addMove(c, b));
            case 3 -> compare("dropPlan()", book::dropPlan, model::dropPlan);
            case 4 -> compare("carryOut()", book::carryOut, model::carryOut);
            case 5, 6 -> compare("setBroken(" + trunk + ", " + strand + ", " + broken + ")",
                    () -> book.setBroken(trunk, strand, broken), () -> model.setBroken(trunk, strand, broken));
            default -> compare("plug(" + a + ", " + b + ", " + colour + ")",
                    () -> book.plug(a, b, colour), () -> model.plug(a, b, colour));
        }
    }

    /** Moves that hang together: each begins where the one before it ends, and often they go round. */
    private void wholePlan() {
        compare("dropPlan()", book::dropPlan, model::dropPlan);
        int first = portWithCable();
        int here = first;
        int length = random.nextInt(random.nextInt(5) == 0 ? 14 : 4);
        for (int i = 0; i < length; i++) {
            int from = here;
            int to = random.nextInt(9) == 0 ? port() : portWithCable();
            compare("addMove(" + from + ", " + to + ")", () -> book.addMove(from, to), () -> model.addMove(from, to));
            here = to;
        }
        int from = here;
        int to = random.nextInt(3) == 0 ? port() : first;
        compare("addMove(" + from + ", " + to + ")", () -> book.addMove(from, to), () -> model.addMove(from, to));
        compare("canCarryOut()", book::canCarryOut, model::canCarryOut);
        compare("carryOut()", book::carryOut, model::carryOut);
    }

    private void askOfAll() {
        int panel = number(panels);
        int other = number(panels);
        int trunk = number(model.trunks());
        switch (random.nextInt(9)) {
            case 0 -> compare("ports()", book::ports, model::ports);
            case 1 -> compare("trunks()", book::trunks, model::trunks);
            case 2 -> compare("cables()", book::cables, model::cables);
            case 3 -> compare("lines()", book::lines, model::lines);
            case 4 -> compare("canCarryOut()", book::canCarryOut, model::canCarryOut);
            case 5 -> compare("cableLength()", book::cableLength, model::cableLength);
            case 6 -> compare("freePort(" + panel + ")", () -> book.freePort(panel), () -> model.freePort(panel));
            case 7 -> compare("used(" + trunk + ")", () -> book.used(trunk), () -> model.used(trunk));
            default -> compare("freeStrand(" + panel + ", " + other + ")",
                    () -> book.freeStrand(panel, other), () -> model.freeStrand(panel, other));
        }
    }

    private void askOfPort() {
        int a = port();
        int b = port();
        boolean cable = random.nextBoolean();
        int hop = number(6);
        String trace = "(" + a + ", " + cable + ")";
        String pair = "(" + a + ", " + b + ")";
        switch (random.nextInt(11)) {
            case 0 -> compare("panelOf(" + a + ")", () -> book.panelOf(a), () -> model.panelOf(a));
            case 1 -> compare("byCable(" + a + ")", () -> book.byCable(a), () -> model.byCable(a));
            case 2 -> compare("byStrand(" + a + ")", () -> book.byStrand(a), () -> model.byStrand(a));
            case 3 -> compare("colour(" + a + ")", () -> book.colour(a), () -> model.colour(a));
            case 4 -> compare("end" + trace, () -> book.end(a, cable), () -> model.end(a, cable));
            case 5 -> compare("hops" + trace, () -> book.hops(a, cable), () -> model.hops(a, cable));
            case 6 -> compare("hopTo(" + a + ", " + cable + ", " + hop + ")",
                    () -> book.hopTo(a, cable, hop), () -> model.hopTo(a, cable, hop));
            case 7 -> compare("lengthOf" + trace, () -> book.lengthOf(a, cable), () -> model.lengthOf(a, cable));
            case 8 -> compare("isRing(" + a + ")", () -> book.isRing(a), () -> model.isRing(a));
            case 9 -> compare("areJoined" + pair, () -> book.areJoined(a, b), () -> model.areJoined(a, b));
            default -> compare("areJoinedBySearch" + pair,
                    () -> book.areJoinedBySearch(a, b), () -> model.areJoined(a, b));
        }
    }

    /** The same seed draws the same numbers, so that a run that failed can be seen again. */
    private static final class Draws {
        private long state;

        Draws(long seed) {
            state = seed * 0x9E3779B97F4A7C15L + 1;
        }

        int nextInt() {
            state = state * 6364136223846793005L + 1442695040888963407L;
            long mixed = (state ^ (state >>> 29)) * 0xBF58476D1CE4E5B9L;
            return (int) (mixed >>> 32);
        }

        int nextInt(int bound) {
            return Math.floorMod(nextInt(), bound);
        }

        boolean nextBoolean() {
            return nextInt() < 0;
        }
    }
}
