import java.util.function.Consumer;
import java.util.function.Supplier;

/** Counts and prints the answers of a test that are not the ones that are due. */
final class Check {
    static final Class<IndexOutOfBoundsException> INDEX = IndexOutOfBoundsException.class;
    static final Class<IllegalArgumentException> ARGUMENT = IllegalArgumentException.class;
    static final Class<IllegalStateException> STATE = IllegalStateException.class;

    private static final int MOST_PORTS_READ = 60;

    private int wrong = 0;

    void due(String what, Object got, Object want) {
        if (!got.equals(want)) {
            wrong++;
            System.out.println(what + ": answered " + got + ", due is " + want);
        }
    }

    /** The call throws that very exception, and changes nothing. */
    void thrown(String what, Class<? extends RuntimeException> want,
            Supplier<CableBook> setUp, Consumer<CableBook> call) {
        CableBook book = setUp.get();
        due(what + " throws", outcome(() -> call.accept(book)), want.getSimpleName());
        unchanged(what, setUp, call);
    }

    /**
     * The book that the call was made on, whether it threw or not, reads like a twin on which
     * it was not made (twins, since a book has 512 calls only).
     */
    void unchanged(String what, Supplier<CableBook> setUp, Consumer<CableBook> call) {
        CableBook book = setUp.get();
        due(what + ": the room is small enough to be read in 512 calls", book.ports() <= MOST_PORTS_READ, true);
        outcome(() -> call.accept(book));
        due(what + " changed", contents(book), contents(setUp.get()));

        CableBook other = setUp.get();
        outcome(() -> call.accept(other));
        due(what + " changed the plan or a trace", behaviour(other), behaviour(setUp.get()));
    }

    /** Numbers too small and too large by one, by much, and by so much that sums with them wrap around. */
    static int[] outside(int least, int most) {
        return new int[] {least - 1, most + 1, -1 - most, most + 65536, Integer.MIN_VALUE, Integer.MAX_VALUE};
    }

    static String outcome(Runnable call) {
        try {
            call.run();
            return "nothing";
        } catch (RuntimeException e) {
            return e.getClass().getSimpleName();
        }
    }

    private static String contents(CableBook book) {
        StringBuilder text = new StringBuilder();
        text.append(book.ports()).append(' ').append(book.trunks()).append(' ').append(book.cables())
                .append(' ').append(book.cableLength()).append(' ').append(book.lines());
        int ports = book.ports();
        for (int port = 0; port < ports; port++) {
            text.append(" | ").append(book.panelOf(port)).append(' ').append(book.byCable(port))
                    .append(' ').append(book.byStrand(port)).append(' ').append(book.colour(port));
        }
        int trunks = book.trunks();
        for (int trunk = 0; trunk < trunks; trunk++) {
            text.append(" & ").append(book.used(trunk));
        }
        return text.toString();
    }

    private static String behaviour(CableBook book) {
        StringBuilder text = new StringBuilder();
        int ports = book.ports();
        for (int port = 0; port < ports; port++) {
            text.append(" | ").append(book.end(port, true)).append(' ').append(book.end(port, false))
                    .append(' ').append(book.lengthOf(port, true)).append(' ').append(book.lengthOf(port, false));
        }
        text.append(" plan ").append(book.canCarryOut()).append(' ').append(outcome(book::carryOut));
        for (int port = 0; port < ports; port++) {
            text.append(" | ").append(book.byCable(port)).append(' ').append(book.colour(port));
        }
        text.append(" left ").append(book.dropPlan());
        return text.toString();
    }

    void finish() {
        System.out.println(wrong == 0 ? "all answers are as due" : wrong + " answers are not as due");
        if (wrong != 0) {
            System.exit(1);
        }
    }
}
