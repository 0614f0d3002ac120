import java.util.ArrayDeque;
import java.util.ArrayList;
import java.util.Deque;
import java.util.HashSet;
import java.util.List;
import java.util.Set;
import java.util.TreeSet;

/**
 * The document once more, told as plainly as may be: lists of things that are there,
 * looked through anew for each answer. Shares no idea with CableBook on how to hold them.
 */
final class ModelBook {
    static final class Cable {
        final int[] ends;
        final int colour;

        Cable(int a, int b, int colour) {
            this.ends = new int[] {a, b};
            this.colour = colour;
        }
    }

    record Panel(int rack, int first, int count) { }

    record Strand(int trunk, int number, int a, int b, int length) { }

    record Move(int a, int b) { }

    record Hop(int to, int length) { }

    private final List<Panel> panels = new ArrayList<>();
    private final List<Strand> strands = new ArrayList<>();
    private final Set<Strand> broken = new HashSet<>();
    private final List<Cable> cables = new ArrayList<>();
    private final List<Move> moves = new ArrayList<>();

    int addPanel(int rack, int ports) {
        argument(rack >= 0 && rack <= 9 && ports >= 1 && ports <= 12);
        state(panels.size() < 12);
        int first = ports();
        panels.add(new Panel(rack, first, ports));
        return first;
    }

    int addTrunk(int from, int to, int count, int length) {
        index(isPort(from) && isPort(to));
        argument(count >= 1 && count <= 12 && length >= 1 && length <= 500);
        argument(panelOf(from) != panelOf(to));
        for (int i = 0; i < count; i++) {
            argument(isPort(from + i) && panelOf(from + i) == panelOf(from));
            argument(isPort(to + i) && panelOf(to + i) == panelOf(to));
        }
        state(trunks() < 10);
        for (int i = 0; i < count; i++) {
            state(byStrand(from + i) < 0 && byStrand(to + i) < 0);
        }
        int trunk = trunks();
        for (int i = 0; i < count; i++) {
            strands.add(new Strand(trunk, i, from + i, to + i, length));
        }
        return trunk;
    }

    boolean setBroken(int trunk, int number, boolean value) {
        for (Strand strand : strands) {
            if (strand.trunk() == trunk && strand.number() == number) {
                return value ? !broken.add(strand) : broken.remove(strand);
            }
        }
        throw new IndexOutOfBoundsException();
    }

    int plug(int a, int b, int colour) {
        index(isPort(a) && isPort(b));
        argument(colour >= 1 && colour <= 9 && a != b);
        state(byCable(a) < 0 && byCable(b) < 0);
        cables.add(new Cable(a, b, colour));
        return distance(a, b);
    }

    int pull(int port) {
        index(isPort(port));
        int other = byCable(port);
        state(other >= 0);
        cables.remove(cableAt(port));
        return other;
    }

    int addMove(int a, int b) {
        index(isPort(a) && isPort(b));
        argument(a != b);
        state(moves.size() < 12);
        moves.add(new Move(a, b));
        return moves.size();
    }

    int dropPlan() {
        int count = moves.size();
        moves.clear();
        return count;
    }

    /** The cables as the plan leaves them; null if it is not possible. */
    private List<Cable> planned() {
        List<Cable> after = new ArrayList<>();
        for (Cable cable : cables) {
            after.add(new Cable(cable.ends[0], cable.ends[1], cable.colour));
        }
        List<int[]> lifted = new ArrayList<>();
        for (Move move : moves) {
            boolean isThere = false;
            for (Cable cable : after) {
                for (int side = 0; side < 2; side++) {
                    if (cable.ends[side] == move.a()) {
                        cable.ends[side] = -1;
                        lifted.add(new int[] {after.indexOf(cable), side, move.b()});
                        isThere = true;
                    }
                }
            }
            if (!isThere) {
                return null;
            }
        }
        for (int[] end : lifted) {
            for (Cable cable : after) {
                if (cable.ends[0] == end[2] || cable.ends[1] == end[2]) {
                    return null;
                }
            }
            after.get(end[0]).ends[end[1]] = end[2];
        }
        return after;
    }

    boolean canCarryOut() {
        return planned() != null;
    }

    int carryOut() {
        List<Cable> after = planned();
        state(after != null);
        cables.clear();
        cables.addAll(after);
        return dropPlan();
    }

    int ports() {
        int count = 0;
        for (Panel panel : panels) {
            count += panel.count();
        }
        return count;
    }

    int trunks() {
        Set<Integer> numbers = new HashSet<>();
        for (Strand strand : strands) {
            numbers.add(strand.trunk());
        }
        return numbers.size();
    }

    int cables() {
        return cables.size();
    }

    int panelOf(int port) {
        for (int i = 0; i < panels.size(); i++) {
            Panel panel = panels.get(i);
            if (port >= panel.first() && port < panel.first() + panel.count()) {
                return i;
            }
        }
        throw new IndexOutOfBoundsException();
    }

    int byCable(int port) {
        index(isPort(port));
        Cable cable = cableAt(port);
        return cable == null ? -1 : cable.ends[0] == port ? cable.ends[1] : cable.ends[0];
    }

    int byStrand(int port) {
        index(isPort(port));
        Strand strand = strandAt(port);
        return strand == null ? -1 : strand.a() == port ? strand.b() : strand.a();
    }

    int colour(int port) {
        index(isPort(port));
        Cable cable = cableAt(port);
        return cable == null ? 0 : cable.colour;
    }

    private List<Hop> trace(int port, boolean cable) {
        index(isPort(port));
        List<Hop> hops = new ArrayList<>();
        int here = port;
        boolean along = cable;
        while (true) {
            Strand strand = strandAt(here);
            boolean goes = along ? cableAt(here) != null : strand != null && !broken.contains(strand);
            if (!goes) {
                return hops;
            }
            int next = along ? byCable(here) : byStrand(here);
            hops.add(new Hop(next, along ? distance(here, next) : strand.length()));
            if (next == port) {
                return hops;
            }
            here = next;
            along = !along;
        }
    }

    int end(int port, boolean cable) {
        List<Hop> hops = trace(port, cable);
        return hops.isEmpty() ? port : hops.get(hops.size() - 1).to();
    }

    int hops(int port, boolean cable) {
        return trace(port, cable).size();
    }

    int hopTo(int port, boolean cable, int hop) {
        List<Hop> hops = trace(port, cable);
        index(hop >= 0 && hop < hops.size());
        return hops.get(hop).to();
    }

    int lengthOf(int port, boolean cable) {
        int length = 0;
        for (Hop hop : trace(port, cable)) {
            length += hop.length();
        }
        return length;
    }

    /** On a ring, and only there, each port has both a cable and a strand that is whole. */
    boolean isRing(int port) {
        index(isPort(port));
        for (int on : lineOf(port)) {
            Strand strand = strandAt(on);
            if (cableAt(on) == null || strand == null || broken.contains(strand)) {
                return false;
            }
        }
        return true;
    }

    boolean areJoined(int a, int b) {
        index(isPort(a) && isPort(b));
        return lineOf(a).contains(b);
    }

    int lines() {
        Set<Integer> lowest = new HashSet<>();
        for (int port = 0; port < ports(); port++) {
            lowest.add(lineOf(port).first());
        }
        return lowest.size();
    }

    private TreeSet<Integer> lineOf(int port) {
        TreeSet<Integer> line = new TreeSet<>();
        Deque<Integer> left = new ArrayDeque<>();
        left.add(port);
        while (!left.isEmpty()) {
            int here = left.remove();
            if (line.add(here)) {
                Strand strand = strandAt(here);
                if (cableAt(here) != null) {
                    left.add(byCable(here));
                }
                if (strand != null && !broken.contains(strand)) {
                    left.add(byStrand(here));
                }
            }
        }
        return line;
    }

    int freePort(int panel) {
        index(panel >= 0 && panel < panels.size());
        for (int port = 0; port < ports(); port++) {
            if (panelOf(port) == panel && cableAt(port) == null && strandAt(port) == null) {
                return port;
            }
        }
        return -1;
    }

    int freeStrand(int panel, int other) {
        index(panel >= 0 && panel < panels.size() && other >= 0 && other < panels.size());
        TreeSet<Integer> free = new TreeSet<>();
        for (Strand strand : strands) {
            if (!broken.contains(strand) && cableAt(strand.a()) == null && cableAt(strand.b()) == null) {
                if (panelOf(strand.a()) == panel && panelOf(strand.b()) == other) {
                    free.add(strand.a());
                }
                if (panelOf(strand.b()) == panel && panelOf(strand.a()) == other) {
                    free.add(strand.b());
                }
            }
        }
        return free.isEmpty() ? -1 : free.first();
    }

    int used(int trunk) {
        index(trunk >= 0 && trunk < trunks());
        int count = 0;
        for (Strand strand : strands) {
            if (strand.trunk() == trunk && cableAt(strand.a()) != null && cableAt(strand.b()) != null) {
                count++;
            }
        }
        return count;
    }

    int cableLength() {
        int length = 0;
        for (Cable cable : cables) {
            length += distance(cable.ends[0], cable.ends[1]);
        }
        return length;
    }

    private int distance(int a, int b) {
        int from = panels.get(panelOf(a)).rack();
        int to = panels.get(panelOf(b)).rack();
        if (panelOf(a) == panelOf(b)) {
            return 1;
        }
        return from == to ? 2 : 3 + 2 * Math.abs(from - to);
    }

    private boolean isPort(int port) {
        return port >= 0 && port < ports();
    }

    private Cable cableAt(int port) {
        for (Cable cable : cables) {
            if (cable.ends[0] == port || cable.ends[1] == port) {
                return cable;
            }
        }
        return null;
    }

    private Strand strandAt(int port) {
        for (Strand strand : strands) {
            if (strand.a() == port || strand.b() == port) {
                return strand;
            }
        }
        return null;
    }

    private static void index(boolean fine) {
        if (!fine) {
            throw new IndexOutOfBoundsException();
        }
    }

    private static void argument(boolean fine) {
        if (!fine) {
            throw new IllegalArgumentException();
        }
    }

    private static void state(boolean fine) {
        if (!fine) {
            throw new IllegalStateException();
        }
    }
}
