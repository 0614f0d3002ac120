import java.util.function.ToIntFunction;

/** The edges of promises 10 to 16: each test says which sentence of the document it holds. */
public final class ContentsEdgesTest {
    private static final Check CHECK = new Check();

    public static void main(String[] args) {
        portsNoneToAll();
        trunksNoneToTen();
        cablesNoneToAll();
        panelOfFirstAndLastPorts();
        panelOfNoSuchPort();
        byCableWithoutCable();
        byCableFirstAndLastPort();
        byCableNoSuchPort();
        byStrandBrokenOrNot();
        byStrandWithoutStrand();
        byStrandFirstAndLastPort();
        byStrandNoSuchPort();
        colourWithoutCable();
        colourLeastAndMost();
        colourNoSuchPort();
        askingChangesNothing();
        CHECK.finish();
    }

    /** Promise 10: "Returns how many ports there are, of all panels." */
    private static void portsNoneToAll() {
        CableBook book = new CableBook();
        CHECK.due("10 no panels", book.ports(), 0);
        for (int i = 1; i <= 12; i++) {
            book.addPanel(0, 12);
            CHECK.due("10 panels " + i, book.ports(), 12 * i);
        }
        Check.outcome(() -> book.addPanel(0, 1));
        CHECK.due("10 a panel that was refused has none", book.ports(), 144);
        CableBook small = Rooms.panels(12, 1);
        CHECK.due("10 twelve panels of one port", small.ports(), 12);
    }

    /** Promise 11: "Returns how many trunks there are." */
    private static void trunksNoneToTen() {
        CHECK.due("11 a new object", new CableBook().trunks(), 0);
        CHECK.due("11 panels only", Rooms.pair().trunks(), 0);
        CHECK.due("11 of twelve strands", Rooms.pairWithTrunk().trunks(), 1);
        CHECK.due("11 all of its strands broken", Rooms.brokenTrunk().trunks(), 1);
        CableBook full = Rooms.tenTrunks();
        CHECK.due("11 ten", full.trunks(), 10);
        Check.outcome(() -> full.addTrunk(10, 21, 1, 1));
        CHECK.due("11 a trunk that was refused is none", full.trunks(), 10);
    }

    /** Promise 12: "Returns how many cables are plugged." */
    private static void cablesNoneToAll() {
        CHECK.due("12 a new object", new CableBook().cables(), 0);
        CHECK.due("12 strands are no cables", Rooms.pairWithTrunk().cables(), 0);
        CableBook book = Rooms.pair();
        book.plug(23, 0, 1);
        CHECK.due("12 one, from the last port to the first", book.cables(), 1);
        Check.outcome(() -> book.plug(0, 1, 1));
        CHECK.due("12 a cable that was refused is none", book.cables(), 1);
        book.pull(0);
        CHECK.due("12 none again", book.cables(), 0);
        CHECK.due("12 at each port of a full room", Rooms.ringOfAll().cables(), 72);
    }

    /** Promise 13: "Returns the panel of a port."; Terms: "Panels are numbered from 0 on; there are at most 12." */
    private static void panelOfFirstAndLastPorts() {
        CableBook full = Rooms.allPanels();
        for (int panel = 0; panel < 12; panel++) {
            CHECK.due("13 first port of full panel " + panel, full.panelOf(12 * panel), panel);
            CHECK.due("13 last port of full panel " + panel, full.panelOf(12 * panel + 11), panel);
        }
        CableBook small = Rooms.panels(12, 1);
        for (int panel = 0; panel < 12; panel++) {
            CHECK.due("13 only port of panel " + panel, small.panelOf(panel), panel);
        }
    }

    /** Promise 13: "Throws `IndexOutOfBoundsException` if there is no such port". */
    private static void panelOfNoSuchPort() {
        dueNoSuchPort("13", b -> b.panelOf(144), CableBook::panelOf);
    }

    /** Promise 14: "Returns the other port; -1 without a cable." */
    private static void byCableWithoutCable() {
        CHECK.due("14 never had one", Rooms.pair().byCable(0), -1);
        CHECK.due("14 a strand only", Rooms.pairWithTrunk().byCable(23), -1);
        CableBook book = Rooms.pairFullOfCables();
        book.pull(11);
        CHECK.due("14 pulled at this end", book.byCable(11), -1);
        CHECK.due("14 pulled at the other end", book.byCable(23), -1);
        CHECK.due("14 the cable beside it", book.byCable(10), 22);
        book.addMove(0, 11);
        book.carryOut();
        CHECK.due("14 moved away", book.byCable(0), -1);
        CHECK.due("14 moved there", book.byCable(11), 12);
    }

    /** Promise 14: "Returns the other end of the cable of a port.": the first port and the last one are such. */
    private static void byCableFirstAndLastPort() {
        CableBook book = Rooms.allPanels();
        book.plug(143, 0, 1);
        CHECK.due("14 of the first", book.byCable(0), 143);
        CHECK.due("14 of the last", book.byCable(143), 0);
    }

    /** Promise 14: "Throws `IndexOutOfBoundsException` if there is no such port". */
    private static void byCableNoSuchPort() {
        dueNoSuchPort("14", b -> b.byCable(144), CableBook::byCable);
    }

    /** Promise 15: "Returns the other end of the strand of a port, broken or not." */
    private static void byStrandBrokenOrNot() {
        CHECK.due("15 whole", Rooms.oneTrunk().byStrand(1), 5);
        CHECK.due("15 whole, backwards", Rooms.oneTrunk().byStrand(5), 1);
        CHECK.due("15 broken", Rooms.brokenTrunk().byStrand(1), 5);
        CHECK.due("15 broken, backwards", Rooms.brokenTrunk().byStrand(5), 1);
    }

    /** Promise 15: "Returns the other port; -1 without a strand." */
    private static void byStrandWithoutStrand() {
        CableBook book = Rooms.oneTrunk();
        CHECK.due("15 just before the first", book.byStrand(0), -1);
        CHECK.due("15 just behind the last", book.byStrand(3), -1);
        CHECK.due("15 before and behind at the other panel", book.byStrand(4) + book.byStrand(7), -2);
        CHECK.due("15 a cable only", Rooms.pairFullOfCables().byStrand(0), -1);
    }

    /**
     * Promise 15: "Returns the other end of the strand of a port, broken or not.": the first port and the last
     * one.
     */
    private static void byStrandFirstAndLastPort() {
        CableBook book = Rooms.allPanels();
        book.addTrunk(143, 0, 1, 1);
        CHECK.due("15 of the first", book.byStrand(0), 143);
        CHECK.due("15 of the last", book.byStrand(143), 0);
        CableBook ring = Rooms.ringOfAll();
        for (int port = 0; port < Rooms.ALL_PORTS; port++) {
            CHECK.due("15 of " + port, ring.byStrand(port), port / 12 % 2 == 0 ? port + 12 : port - 12);
        }
    }

    /** Promise 15: "Throws `IndexOutOfBoundsException` if there is no such port". */
    private static void byStrandNoSuchPort() {
        dueNoSuchPort("15", b -> b.byStrand(144), CableBook::byStrand);
    }

    /** Promise 16: "Returns 1 to 9; 0 without a cable.": 0. */
    private static void colourWithoutCable() {
        CHECK.due("16 never had one", Rooms.pair().colour(0), 0);
        CHECK.due("16 a strand only", Rooms.pairWithTrunk().colour(23), 0);
        CableBook book = Rooms.pairFullOfCables();
        book.pull(8);
        CHECK.due("16 pulled at this end", book.colour(8), 0);
        CHECK.due("16 pulled at the other end", book.colour(20), 0);
        book.addMove(7, 8);
        book.carryOut();
        CHECK.due("16 moved away", book.colour(7), 0);
        CHECK.due("16 moved there", book.colour(8), 8);
        CHECK.due("16 at the end that stays", book.colour(19), 8);
    }

    /** Promise 16: "Returns 1 to 9; 0 without a cable.": 1 to 9. */
    private static void colourLeastAndMost() {
        CableBook book = Rooms.pairFullOfCables();
        for (int i = 0; i < 12; i++) {
            CHECK.due("16 at " + i, book.colour(i), 1 + i % 9);
            CHECK.due("16 at its other end, " + (12 + i), book.colour(12 + i), 1 + i % 9);
        }
    }

    /** Promise 16: "Throws `IndexOutOfBoundsException` if there is no such port". */
    private static void colourNoSuchPort() {
        dueNoSuchPort("16", b -> b.colour(144), CableBook::colour);
    }

    /** Promises 10 to 16, Terms: "nothing from here on changes anything". */
    private static void askingChangesNothing() {
        CHECK.unchanged("10 to 16", ContentsEdgesTest::planned, b -> {
            b.ports();
            b.trunks();
            b.cables();
            for (int port : new int[] {0, 10, 21}) {
                b.panelOf(port);
                b.byCable(port);
                b.byStrand(port);
                b.colour(port);
            }
        });
    }

    /** Just beside the ports that there are, far from them, in a room without ports, and beyond a full room. */
    private static void dueNoSuchPort(String promise, ToIntFunction<CableBook> beyondAll, OfPort call) {
        for (int port : Check.outside(0, 21)) {
            CHECK.thrown(promise + " port " + port, Check.INDEX, ContentsEdgesTest::planned, b -> call.ask(b, port));
        }
        CHECK.thrown(promise + " no ports at all", Check.INDEX, CableBook::new, b -> call.ask(b, 0));
        CableBook full = Rooms.ringOfAll();
        CHECK.due(promise + " port 144 of 144", Check.outcome(() -> beyondAll.applyAsInt(full)),
                "IndexOutOfBoundsException");
    }

    private interface OfPort {
        int ask(CableBook book, int port);
    }

    private static CableBook planned() {
        CableBook book = Rooms.tenTrunks();
        book.plug(0, 21, 9);
        book.plug(1, 13, 2);
        book.setBroken(2, 0, true);
        book.addMove(0, 10);
        return book;
    }
}
