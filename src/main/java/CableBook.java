/** A book of cables for a machine room. */
public final class CableBook {
    private static final int NONE = -1;
    private static final int MOST_PANELS = 12;
    private static final int MOST_PORTS_OF_PANEL = 12;
    private static final int MOST_PORTS = 144;
    private static final int HIGHEST_RACK = 9;
    private static final int MOST_TRUNKS = 10;
    private static final int MOST_STRANDS = 12;
    private static final int LONGEST_TRUNK = 500;
    private static final int HIGHEST_COLOUR = 9;
    private static final int NO_COLOUR = 0;
    private static final int MOST_MOVES = 12;

    // By panel.
    private int panelCount;
    private final Row rackOf = new Row(MOST_PANELS, NONE);
    private final Row firstPortOf = new Row(MOST_PANELS, NONE);
    private final Row portCountOf = new Row(MOST_PANELS, 0);

    // By port.
    private int portCount;
    private final Row panelAt = new Row(MOST_PORTS, NONE);
    private final Row cableTo = new Row(MOST_PORTS, NONE);
    private final Row colourAt = new Row(MOST_PORTS, NO_COLOUR);
    private final Row strandTo = new Row(MOST_PORTS, NONE);
    private final Row trunkAt = new Row(MOST_PORTS, NONE);
    private final Marks brokenAt = new Marks(MOST_PORTS);

    // By trunk.
    private int trunkCount;
    private final Row trunkStart = new Row(MOST_TRUNKS, NONE);
    private final Row strandCountOf = new Row(MOST_TRUNKS, 0);
    private final Row trunkLength = new Row(MOST_TRUNKS, 0);

    private final Plan plan = new Plan();

    // Written anew by each trace and each search, so that no call has to make rows.
    private final Row trail = new Row(MOST_PORTS, NONE);
    private final Row queue = new Row(MOST_PORTS, NONE);
    private final Marks found = new Marks(MOST_PORTS);

    public CableBook() {
        panelCount = 0;
        portCount = 0;
        trunkCount = 0;
    }

    // ---- the room

    public int addPanel(int rack, int ports) throws IllegalArgumentException, IllegalStateException {
        if (!isWithin(rack, 0, HIGHEST_RACK) || !isWithin(ports, 1, MOST_PORTS_OF_PANEL)) {
            throw new IllegalArgumentException("rack or ports out of range");
        }
        if (panelCount >= MOST_PANELS) {
            throw new IllegalStateException("no room for another panel");
        }
        int first = portCount;
        rackOf.put(panelCount, rack);
        firstPortOf.put(panelCount, first);
        portCountOf.put(panelCount, ports);
        for (int i = 0; i < ports; i++) {
            panelAt.put(first + i, panelCount);
        }
        panelCount++;
        portCount += ports;
        return first;
    }

    public int addTrunk(int from, int to, int strands, int length)
            throws IndexOutOfBoundsException, IllegalArgumentException, IllegalStateException {
        checkPort(from);
        checkPort(to);
        if (!isWithin(strands, 1, MOST_STRANDS) || !isWithin(length, 1, LONGEST_TRUNK)) {
            throw new IllegalArgumentException("strands or length out of range");
        }
        if (panelAt.at(from) == panelAt.at(to)) {
            throw new IllegalArgumentException("both ports are of the same panel");
        }
        if (portsFrom(from) < strands || portsFrom(to) < strands) {
            throw new IllegalArgumentException("not so many ports from there on");
        }
        if (trunkCount >= MOST_TRUNKS) {
            throw new IllegalStateException("no room for another trunk");
        }
        if (anyStrand(from, strands) || anyStrand(to, strands)) {
            throw new IllegalStateException("a port has a strand");
        }
        int trunk = trunkCount;
        trunkStart.put(trunk, from);
        strandCountOf.put(trunk, strands);
        trunkLength.put(trunk, length);
        for (int i = 0; i < strands; i++) {
            joinByStrand(from + i, to + i, trunk);
        }
        trunkCount++;
        return trunk;
    }

    public boolean setBroken(int trunk, int strand, boolean broken) throws IndexOutOfBoundsException {
        checkTrunk(trunk);
        if (!isWithin(strand, 0, strandCountOf.at(trunk) - 1)) {
            throw new IndexOutOfBoundsException("no such strand");
        }
        int port = trunkStart.at(trunk) + strand;
        boolean before = brokenAt.has(port);
        brokenAt.set(port, broken);
        brokenAt.set(strandTo.at(port), broken);
        return before;
    }

    // ---- cables

    public int plug(int a, int b, int colour)
            throws IndexOutOfBoundsException, IllegalArgumentException, IllegalStateException {
        checkPort(a);
        checkPort(b);
        if (!isWithin(colour, 1, HIGHEST_COLOUR) || a == b) {
            throw new IllegalArgumentException("colour out of range, or both ports the same");
        }
        if (hasCable(a) || hasCable(b)) {
            throw new IllegalStateException("a port has a cable");
        }
        joinByCable(a, b, colour);
        return lengthBetween(a, b);
    }

    public int pull(int port) throws IndexOutOfBoundsException, IllegalStateException {
        checkPort(port);
        if (!hasCable(port)) {
            throw new IllegalStateException("the port has no cable");
        }
        int other = cableTo.at(port);
        clearCable(port);
        clearCable(other);
        return other;
    }

    public int addMove(int a, int b)
            throws IndexOutOfBoundsException, IllegalArgumentException, IllegalStateException {
        checkPort(a);
        checkPort(b);
        if (a == b) {
            throw new IllegalArgumentException("both ports are the same");
        }
        if (plan.size() >= MOST_MOVES) {
            throw new IllegalStateException("no room for another move");
        }
        plan.add(a, b);
        return plan.size();
    }

    public int dropPlan() {
        int moves = plan.size();
        plan.clear();
        return moves;
    }

    public int carryOut() throws IllegalStateException {
        if (!planIsPossible()) {
            throw new IllegalStateException("the plan is not possible");
        }
        int moves = plan.size();
        pullPlannedEnds();
        plugPlannedEnds();
        plan.clear();
        return moves;
    }

    // ---- what there is; nothing from here on changes anything

    public int ports() {
        return portCount;
    }

    public int trunks() {
        return trunkCount;
    }

    public int cables() {
        int count = 0;
        for (int port = 0; port < portCount; port++) {
            if (isLowerEnd(port)) {
                count++;
            }
        }
        return count;
    }

    public int panelOf(int port) throws IndexOutOfBoundsException {
        checkPort(port);
        return panelAt.at(port);
    }

    public int byCable(int port) throws IndexOutOfBoundsException {
        checkPort(port);
        return cableTo.at(port);
    }

    public int byStrand(int port) throws IndexOutOfBoundsException {
        checkPort(port);
        return strandTo.at(port);
    }

    public int colour(int port) throws IndexOutOfBoundsException {
        checkPort(port);
        return colourAt.at(port);
    }

    // ---- traces

    public int end(int port, boolean cable) throws IndexOutOfBoundsException {
        checkPort(port);
        return endOfTrail(port, trace(port, cable));
    }

    public int hops(int port, boolean cable) throws IndexOutOfBoundsException {
        checkPort(port);
        return trace(port, cable);
    }

    public int hopTo(int port, boolean cable, int hop) throws IndexOutOfBoundsException {
        checkPort(port);
        if (!isWithin(hop, 0, trace(port, cable) - 1)) {
            throw new IndexOutOfBoundsException("no such hop");
        }
        return trail.at(hop);
    }

    public int lengthOf(int port, boolean cable) throws IndexOutOfBoundsException {
        checkPort(port);
        int hopCount = trace(port, cable);
        int length = 0;
        int here = port;
        boolean alongCable = cable;
        for (int i = 0; i < hopCount; i++) {
            int next = trail.at(i);
            length += alongCable ? lengthBetween(here, next) : trunkLength.at(trunkAt.at(here));
            here = next;
            alongCable = !alongCable;
        }
        return length;
    }

    public boolean isRing(int port) throws IndexOutOfBoundsException {
        checkPort(port);
        int hopCount = trace(port, true);
        // A trace without hops ends at its port, too, but has not come back to it.
        return hopCount > 0 && endOfTrail(port, hopCount) == port;
    }

    public boolean areJoined(int a, int b) throws IndexOutOfBoundsException {
        checkPort(a);
        checkPort(b);
        return a == b || isOnTrail(b, trace(a, true)) || isOnTrail(b, trace(a, false));
    }

    public boolean areJoinedBySearch(int a, int b) throws IndexOutOfBoundsException {
        checkPort(a);
        checkPort(b);
        searchFrom(a);
        return found.has(b);
    }

    public int lines() {
        found.clear();
        int count = 0;
        for (int port = 0; port < portCount; port++) {
            if (!found.has(port)) {
                count++;
                found.set(port, true);
                markTrail(trace(port, true));
                markTrail(trace(port, false));
            }
        }
        return count;
    }

    // ---- what is free

    public int freePort(int panel) throws IndexOutOfBoundsException {
        checkPanel(panel);
        int first = firstPortOf.at(panel);
        int count = portCountOf.at(panel);
        for (int i = 0; i < count; i++) {
            if (!hasCable(first + i) && !hasStrand(first + i)) {
                return first + i;
            }
        }
        return NONE;
    }

    public int freeStrand(int panel, int other) throws IndexOutOfBoundsException {
        checkPanel(panel);
        checkPanel(other);
        int first = firstPortOf.at(panel);
        int count = portCountOf.at(panel);
        for (int i = 0; i < count; i++) {
            int far = openStrandFrom(first + i);
            if (far != NONE && panelAt.at(far) == other && !hasCable(first + i) && !hasCable(far)) {
                return first + i;
            }
        }
        return NONE;
    }

    public int used(int trunk) throws IndexOutOfBoundsException {
        checkTrunk(trunk);
        int start = trunkStart.at(trunk);
        int strands = strandCountOf.at(trunk);
        int count = 0;
        for (int i = 0; i < strands; i++) {
            if (hasCable(start + i) && hasCable(strandTo.at(start + i))) {
                count++;
            }
        }
        return count;
    }

    public boolean canCarryOut() {
        return planIsPossible();
    }

    public int cableLength() {
        int length = 0;
        for (int port = 0; port < portCount; port++) {
            if (isLowerEnd(port)) {
                length += lengthBetween(port, cableTo.at(port));
            }
        }
        return length;
    }

    // ---- tests of arguments

    private static boolean isWithin(int value, int least, int most) {
        return value >= least && value <= most;
    }

    private void checkPort(int port) {
        if (!isWithin(port, 0, portCount - 1)) {
            throw new IndexOutOfBoundsException("no such port");
        }
    }

    private void checkPanel(int panel) {
        if (!isWithin(panel, 0, panelCount - 1)) {
            throw new IndexOutOfBoundsException("no such panel");
        }
    }

    private void checkTrunk(int trunk) {
        if (!isWithin(trunk, 0, trunkCount - 1)) {
            throw new IndexOutOfBoundsException("no such trunk");
        }
    }

    // ---- strands

    /** How many ports a port's panel has from that port on. */
    private int portsFrom(int port) {
        int panel = panelAt.at(port);
        return firstPortOf.at(panel) + portCountOf.at(panel) - port;
    }

    private boolean hasStrand(int port) {
        return strandTo.at(port) != NONE;
    }

    private boolean anyStrand(int first, int count) {
        for (int i = 0; i < count; i++) {
            if (hasStrand(first + i)) {
                return true;
            }
        }
        return false;
    }

    private void joinByStrand(int a, int b, int trunk) {
        strandTo.put(a, b);
        strandTo.put(b, a);
        trunkAt.put(a, trunk);
        trunkAt.put(b, trunk);
    }

    private int openStrandFrom(int port) {
        return brokenAt.has(port) ? NONE : strandTo.at(port);
    }

    // ---- ends of cables

    private boolean hasCable(int port) {
        return cableTo.at(port) != NONE;
    }

    /** Each cable has one lower end, so counting these counts each cable once. */
    private boolean isLowerEnd(int port) {
        return cableTo.at(port) > port;
    }

    private void joinByCable(int a, int b, int colour) {
        cableTo.put(a, b);
        cableTo.put(b, a);
        colourAt.put(a, colour);
        colourAt.put(b, colour);
    }

    private void clearCable(int port) {
        cableTo.put(port, NONE);
        colourAt.put(port, NO_COLOUR);
    }

    private int lengthBetween(int a, int b) {
        int panelA = panelAt.at(a);
        int panelB = panelAt.at(b);
        if (panelA == panelB) {
            return 1;
        }
        int apart = Math.abs(rackOf.at(panelA) - rackOf.at(panelB));
        return apart == 0 ? 2 : 3 + 2 * apart;
    }

    // ---- the plan

    private boolean planIsPossible() {
        int moves = plan.size();
        for (int i = 0; i < moves; i++) {
            if (!hasCable(plan.from(i)) || plan.repeatsEarlier(i) || staysTaken(plan.to(i))) {
                return false;
            }
        }
        // No cable can come to have both ends at one port: its other end would either
        // stay there, so that the port stays taken, or be moved there by a second move.
        return true;
    }

    private boolean staysTaken(int port) {
        return hasCable(port) && !plan.pulls(port);
    }

    private void pullPlannedEnds() {
        int moves = plan.size();
        for (int i = 0; i < moves; i++) {
            int near = plan.from(i);
            plan.keepCable(i, cableTo.at(near), colourAt.at(near));
        }
        // Only now, for the other end of a cable may be an end that is moved, too.
        for (int i = 0; i < moves; i++) {
            clearCable(plan.from(i));
        }
    }

    private void plugPlannedEnds() {
        int moves = plan.size();
        for (int i = 0; i < moves; i++) {
            int far = plan.placeAfterwards(plan.keptOther(i));
            joinByCable(plan.to(i), far, plan.keptColour(i));
        }
    }

    // ---- traces and searches

    /** Writes the ports of a trace, hop by hop, into the trail, and returns how many hops it has. */
    private int trace(int port, boolean cable) {
        int here = port;
        boolean alongCable = cable;
        // A trace comes to no port twice, so it has no more hops than there are ports.
        for (int hop = 0; hop < MOST_PORTS; hop++) {
            here = alongCable ? cableTo.at(here) : openStrandFrom(here);
            if (here == NONE) {
                return hop;
            }
            trail.put(hop, here);
            if (here == port) {
                return hop + 1;
            }
            alongCable = !alongCable;
        }
        return MOST_PORTS;
    }

    private int endOfTrail(int port, int hopCount) {
        return hopCount == 0 ? port : trail.at(hopCount - 1);
    }

    private boolean isOnTrail(int port, int hopCount) {
        for (int i = 0; i < hopCount; i++) {
            if (trail.at(i) == port) {
                return true;
            }
        }
        return false;
    }

    private void markTrail(int hopCount) {
        for (int i = 0; i < hopCount; i++) {
            found.set(trail.at(i), true);
        }
    }

    private void searchFrom(int port) {
        found.clear();
        int reached = reach(port, 0);
        for (int i = 0; i < MOST_PORTS && i < reached; i++) {
            int here = queue.at(i);
            reached = reach(cableTo.at(here), reached);
            reached = reach(openStrandFrom(here), reached);
        }
    }

    /** Returns how many ports have been reached then. */
    private int reach(int port, int reached) {
        if (port == NONE || found.has(port)) {
            return reached;
        }
        found.set(port, true);
        queue.put(reached, port);
        return reached + 1;
    }

    /** A row of numbers that tests each index itself: a place outside it reads as a blank one. */
    private static final class Row {
        private final int[] values;
        private final int blank;

        Row(int size, int blank) {
            this.values = new int[Math.max(size, 0)];
            this.blank = blank;
            for (int i = 0; i < values.length; i++) {
                values[i] = blank;
            }
        }

        int at(int index) {
            return index >= 0 && index < values.length ? values[index] : blank;
        }

        void put(int index, int value) {
            if (index >= 0 && index < values.length) {
                values[index] = value;
            }
        }
    }

    /** A row of marks that tests each index itself: a place outside it has no mark. */
    private static final class Marks {
        private final boolean[] marked;

        Marks(int size) {
            this.marked = new boolean[Math.max(size, 0)];
        }

        boolean has(int index) {
            return index >= 0 && index < marked.length && marked[index];
        }

        void set(int index, boolean mark) {
            if (index >= 0 && index < marked.length) {
                marked[index] = mark;
            }
        }

        void clear() {
            for (int i = 0; i < marked.length; i++) {
                marked[i] = false;
            }
        }
    }

    /** The moves, in the order in which they were added, and what their cables were. */
    private static final class Plan {
        private int count;
        private final Row sources = new Row(MOST_MOVES, NONE);
        private final Row targets = new Row(MOST_MOVES, NONE);
        private final Row others = new Row(MOST_MOVES, NONE);
        private final Row colours = new Row(MOST_MOVES, NO_COLOUR);

        int size() {
            return count;
        }

        int from(int move) {
            return sources.at(move);
        }

        int to(int move) {
            return targets.at(move);
        }

        void add(int from, int to) {
            if (count < MOST_MOVES) {
                sources.put(count, from);
                targets.put(count, to);
                count++;
            }
        }

        void clear() {
            count = 0;
        }

        boolean repeatsEarlier(int move) {
            for (int i = 0; i < move; i++) {
                if (from(i) == from(move) || to(i) == to(move)) {
                    return true;
                }
            }
            return false;
        }

        boolean pulls(int port) {
            for (int i = 0; i < count; i++) {
                if (from(i) == port) {
                    return true;
                }
            }
            return false;
        }

        /** Where an end that is at the port now is when all moves are done. */
        int placeAfterwards(int port) {
            for (int i = 0; i < count; i++) {
                if (from(i) == port) {
                    return to(i);
                }
            }
            return port;
        }

        void keepCable(int move, int other, int colour) {
            others.put(move, other);
            colours.put(move, colour);
        }

        int keptOther(int move) {
            return others.at(move);
        }

        int keptColour(int move) {
            return colours.at(move);
        }
    }
}
