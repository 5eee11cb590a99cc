/** Promise 15 (queue): a test for each sentence that names a boundary. */
public final class Promise15Test {
    private static final int NONE = RenameRows.NONE;
    private static final String PROMISE = "Promise 15";

    public static void main(String[] args) {
        fromZero();
        roundTheEnd();
        whenThereIsNone();
        whenTheQueueIsEmpty();
        Check.close();
    }

    private static void fromZero() {
        Check.about(PROMISE, "The k-th name of the queue (from 0)");
        RenameRows x = new RenameRows(32, 64, 2);
        for (int k = 0; k < 64; k++) {
            Check.due("name " + k, x.queue(k), 32 + k);
        }
        x.dispatch(NONE, NONE, 0);
        Check.due("the first is gone", x.queue(0), 33);
        Check.due("the last is one nearer", x.queue(62), 95);
        x.select(1);
        x.end(0);
        x.commit(1);
        Check.due("what was given back is behind all", x.queue(63), 0);
        Check.due("before it the last one", x.queue(62), 95);
    }

    private static void roundTheEnd() {
        Check.about(PROMISE, "The k-th name of the queue (when names have gone round)");
        RenameRows x = new RenameRows(1, 3, 2);
        for (int k = 1; k <= 12; k++) {
            Made.oneByOne(x, 1);
            Check.queueIs("after row " + k, x, (k + 1) % 4, (k + 2) % 4, (k + 3) % 4);
        }
    }

    private static void whenThereIsNone() {
        Check.about(PROMISE, "IllegalArgumentException, when there is none");
        RenameRows x = Made.mixed();
        int free = x.count(4);
        Check.due("the last one", x.queue(free - 1), 0);
        for (int bad : Check.outside(free)) {
            Check.refusedForArgument("k " + bad, Made::mixed, y -> y.queue(bad));
        }
        for (int[] size : new int[][] {{1, 1}, {1, 64}, {32, 1}, {32, 64}}) {
            RenameRows y = new RenameRows(size[0], size[1], 1);
            Check.due("the last one", y.queue(size[1] - 1), size[0] + size[1] - 1);
            for (int bad : Check.outside(size[1])) {
                Check.noArgument("k " + bad + " of " + size[1], () -> y.queue(bad));
            }
            y.dispatch(NONE, NONE, 0);
            Check.noArgument("one less", () -> y.queue(size[1] - 1));
        }
    }

    private static void whenTheQueueIsEmpty() {
        Check.about(PROMISE, "IllegalArgumentException, when there is none (the queue is empty)");
        for (int bad : new int[] {0, 1, -1, Integer.MIN_VALUE, Integer.MAX_VALUE}) {
            Check.refusedForArgument("k " + bad, Made::withoutFreeName, x -> x.queue(bad));
        }
        RenameRows x = Made.withoutFreeName();
        x.select(1);
        x.end(0);
        x.commit(1);
        Check.due("no longer empty", x.queue(0), 0);
        Check.noArgument("but for one", () -> x.queue(1));
    }
}
