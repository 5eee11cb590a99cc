import java.util.Arrays;
import java.util.function.IntSupplier;
import java.util.function.Supplier;
import java.util.function.ToIntFunction;

/** Counts and prints the answers of a test that are not as due. */
final class Check {
    private static int sentences = 0;
    private static int asked = 0;
    private static int wrong = 0;
    private static String about = "";

    private Check() {
    }

    /** The promise, and its words, that what follows is about: a wrong answer is told with them. */
    static void about(String promise, String words) {
        sentences++;
        about = promise + ", \"" + words + "\": ";
    }

    private static void tellWrong(String what) {
        wrong++;
        System.out.println(about + what);
    }

    static void due(String what, int got, int want) {
        asked++;
        if (got != want) {
            tellWrong(what + " answered " + got + ", due is " + want);
        }
    }

    static void holds(String what, boolean held) {
        asked++;
        if (!held) {
            tellWrong(what + " does not hold");
        }
    }

    /** The very class counts: a class below or above the one that is due is wrong. */
    static void thrown(String what, Class<? extends RuntimeException> want, IntSupplier call) {
        asked++;
        String got;
        try {
            got = "the answer " + call.getAsInt();
        } catch (RuntimeException e) {
            if (e.getClass() == want && !isByTheMachine(e)) {
                return;
            }
            got = e.toString();
        }
        tellWrong(what + ": " + got + ", due is " + want.getName());
    }

    /** The class's own exceptions begin otherwise; the machine's tell index and length. */
    static boolean isByTheMachine(RuntimeException e) {
        return e.getMessage() == null || e.getMessage().startsWith("Index ");
    }

    static void noIndex(String what, IntSupplier call) {
        thrown(what, ArrayIndexOutOfBoundsException.class, call);
    }

    static void noState(String what, IntSupplier call) {
        thrown(what, IllegalStateException.class, call);
    }

    static void noArgument(String what, IntSupplier call) {
        thrown(what, IllegalArgumentException.class, call);
    }

    /** The call throws, and the object goes on as one of which it was not asked. */
    private static void refused(String what, Class<? extends RuntimeException> want,
            Supplier<RenameRows> made, ToIntFunction<RenameRows> call) {
        RenameRows x = made.get();
        thrown(what, want, () -> call.applyAsInt(x));
        RenameRows y = made.get();
        due(what + ", and then count(9)", x.count(9), y.count(9));
        due(what + ", and then count(10)", x.count(10), y.count(10));
        holds(what + " changes nothing", Arrays.equals(Told.nowAndLater(x), Told.nowAndLater(y)));
    }

    static void refusedForIndex(String what, Supplier<RenameRows> made, ToIntFunction<RenameRows> call) {
        refused(what, ArrayIndexOutOfBoundsException.class, made, call);
    }

    static void refusedForState(String what, Supplier<RenameRows> made, ToIntFunction<RenameRows> call) {
        refused(what, IllegalStateException.class, made, call);
    }

    static void refusedForArgument(String what, Supplier<RenameRows> made, ToIntFunction<RenameRows> call) {
        refused(what, IllegalArgumentException.class, made, call);
    }

    /** The call answers this, and nothing is another one by that but, at most, the counts of wants. */
    static void onlyAnswers(String what, int want, int places, int names,
            Supplier<RenameRows> made, ToIntFunction<RenameRows> call) {
        RenameRows x = made.get();
        due(what, call.applyAsInt(x), want);
        RenameRows y = made.get();
        due(what + ", wants of a place more", x.count(9) - y.count(9), places);
        due(what + ", wants of a name more", x.count(10) - y.count(10), names);
        holds(what + " changes nothing else", Arrays.equals(Told.nowAndLater(x), Told.nowAndLater(y)));
    }

    /** Numbers that are none where there are 0 .. size - 1. */
    static int[] outside(int size) {
        return new int[] {-1, -2, -size - 1, size, size + 1, Integer.MIN_VALUE, Integer.MAX_VALUE};
    }

    /** As outside, but where NONE may stand for none. */
    static int[] outsideAndNotNone(int size) {
        return new int[] {-2, -3, -size - 1, size, size + 1, Integer.MIN_VALUE, Integer.MAX_VALUE};
    }

    /** All that row() tells of a place, as reads, reads, gave, knows, register, port, state. */
    static void rowIs(RenameRows x, int place, int... want) {
        for (int what = 0; what < want.length; what++) {
            due("row(" + place + ", " + what + ")", x.row(place, what), want[what]);
        }
    }

    static void queueIs(String when, RenameRows x, int... want) {
        due(when + ": free names", x.count(4), want.length);
        for (int k = 0; k < want.length && k < x.count(4); k++) {
            due(when + ": queue(" + k + ")", x.queue(k), want[k]);
        }
    }

    static void close() {
        String told = sentences == 0 ? "" : sentences + " sentences, ";
        System.out.println(told + asked + " answers, " + wrong + " not as due");
        if (wrong != 0) {
            System.exit(1);
        }
    }
}
