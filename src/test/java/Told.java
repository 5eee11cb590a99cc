import java.util.ArrayList;
import java.util.List;
import java.util.function.IntSupplier;

/**
 * What an object answers, as one row of numbers: two objects that answer alike are in the
 * same state, as far as calls can tell. An object of few places stays below its 512 calls.
 */
final class Told {
    private static final int INDEX = -1001;
    private static final int STATE = -1002;
    private static final int ARGUMENT = -1003;

    private final RenameRows x;
    private final List<Integer> answers = new ArrayList<>();

    private Told(RenameRows x) {
        this.x = x;
    }

    /** All that it tells but wants (count 9 and 10), and then what it hides: names that are ready, marks' rows. */
    static int[] nowAndLater(RenameRows x) {
        Told told = new Told(x);
        told.now();
        told.later();
        told.now();
        return told.answers.stream().mapToInt(k -> k).toArray();
    }

    private void ask(IntSupplier call) {
        int answer;
        try {
            answer = call.getAsInt();
        } catch (ArrayIndexOutOfBoundsException e) {
            answer = INDEX;
        } catch (IllegalStateException e) {
            answer = STATE;
        } catch (IllegalArgumentException e) {
            answer = ARGUMENT;
        }
        answers.add(answer);
    }

    private void now() {
        for (int what = 0; what <= 8; what++) {
            answers.add(x.count(what));
        }
        for (int k = 0; k < x.count(0); k++) {
            answers.add(x.name(k));
            answers.add(x.sure(k));
        }
        for (int k = 0; k < x.count(1); k++) {
            answers.add(x.shares(k));
        }
        for (int k = 0; k < x.count(4); k++) {
            answers.add(x.queue(k));
        }
        for (int port = 0; port < 8; port++) {
            answers.add(x.selected(port));
        }
        for (int place = 0; place < x.count(2); place++) {
            for (int what = 0; what <= 6; what++) {
                int row = place;
                int asked = what;
                ask(() -> x.row(row, asked));
            }
        }
    }

    /** What can go and end does, what can be done is, and each mark, the lowest last, was wrong. */
    private void later() {
        for (int turn = 0; turn < 3; turn++) {
            answers.add(x.select(8));
            for (int place = 0; place < x.count(2); place++) {
                int row = place;
                ask(() -> x.end(row));
            }
            answers.add(x.commit(1));
        }
        for (int k = 7; k >= 0; k--) {
            int mark = k;
            ask(() -> x.wrong(mark));
        }
        answers.add(x.commit(64));
    }
}
