import java.util.function.IntSupplier;

/** Counts and prints the answers of a test that are not as due. */
final class Check {
    private static int asked = 0;
    private static int wrong = 0;

    private Check() {
    }

    static void due(String what, int got, int want) {
        asked++;
        if (got != want) {
            wrong++;
            System.out.println(what + " answered " + got + ", due is " + want);
        }
    }

    static void holds(String what, boolean held) {
        asked++;
        if (!held) {
            wrong++;
            System.out.println(what + " does not hold");
        }
    }

    /** The very class counts: a class below or above the one that is due is wrong. */
    static void thrown(String what, Class<? extends RuntimeException> want, IntSupplier call) {
        asked++;
        String got;
        try {
            got = "the answer " + call.getAsInt();
        } catch (RuntimeException e) {
            if (e.getClass() == want && !isByTheMachine(e)) {
                return;
            }
            got = e.toString();
        }
        wrong++;
        System.out.println(what + ": " + got + ", due is " + want.getName());
    }

    /** The class's own exceptions begin otherwise; the machine's tell index and length. */
    static boolean isByTheMachine(RuntimeException e) {
        return e.getMessage() == null || e.getMessage().startsWith("Index ");
    }

    static void noIndex(String what, IntSupplier call) {
        thrown(what, ArrayIndexOutOfBoundsException.class, call);
    }

    static void noState(String what, IntSupplier call) {
        thrown(what, IllegalStateException.class, call);
    }

    static void noArgument(String what, IntSupplier call) {
        thrown(what, IllegalArgumentException.class, call);
    }

    /** All that row() tells of a place, as reads, reads, gave, knows, register, port, state. */
    static void rowIs(RenameRows x, int place, int... want) {
        for (int what = 0; what < want.length; what++) {
            due("row(" + place + ", " + what + ")", x.row(place, what), want[what]);
        }
    }

    static void queueIs(String when, RenameRows x, int... want) {
        due(when + ": free names", x.count(4), want.length);
        for (int k = 0; k < want.length && k < x.count(4); k++) {
            due(when + ": queue(" + k + ")", x.queue(k), want[k]);
        }
    }

    static void close() {
        System.out.println(asked + " answers, " + wrong + " not as due");
        if (wrong != 0) {
            System.exit(1);
        }
    }
}
