/** Promise 5 (select): a test for each sentence that names a boundary. */
public final class Promise05Test {
    private static final int NONE = RenameRows.NONE;
    private static final String PROMISE = "Promise 5";

    public static void main(String[] args) {
        portsZeroToPortsMinusOne();
        oneForEachPort();
        theOldest();
        theOldestRoundTheRing();
        thatIsWaiting();
        allThatItReadsIsReady();
        whatCanNotGoKeepsNobody();
        goingMakesNothingReady();
        howMany();
        portsAreNotOneToEight();
        Check.close();
    }

    /** Eight rows that can go, row k at port k. */
    private static RenameRows aRowForEachPort() {
        RenameRows x = new RenameRows(1, 1, 8);
        Made.idle(x, 8);
        for (int k = 0; k < 8; k++) {
            x.port(k, k);
        }
        return x;
    }

    private static void portsZeroToPortsMinusOne() {
        Check.about(PROMISE, "For each of the ports 0 to ports - 1");
        for (int ports = 1; ports <= 8; ports++) {
            RenameRows x = aRowForEachPort();
            Check.due("so many go", x.select(ports), ports);
            for (int k = 0; k < 8; k++) {
                Check.due("row " + k + " of " + ports + " ports", x.row(k, 6), k < ports ? 1 : 0);
                Check.due("port " + k + " of " + ports + " ports", x.selected(k), k < ports ? k : NONE);
            }
        }
    }

    private static void oneForEachPort() {
        Check.about(PROMISE, "the oldest row with this port");
        RenameRows x = new RenameRows(1, 1, 6);
        Made.idle(x, 6);
        for (int k = 0; k < 6; k++) {
            x.port(k, k % 2 == 0 ? 3 : 1);
        }
        Check.due("one each", x.select(8), 2);
        Check.due("at port 3", x.selected(3), 0);
        Check.due("at port 1", x.selected(1), 1);
        Check.due("none at port 0", x.selected(0), NONE);
        Check.due("port 3 is not asked", x.select(3), 1);
        Check.due("at port 1 the next", x.selected(1), 3);
        Check.due("then both", x.select(4), 2);
        Check.due("at port 3 the next", x.selected(3), 2);
        Check.due("at port 1 the last", x.selected(1), 5);
    }

    private static void theOldest() {
        Check.about(PROMISE, "the oldest row");
        RenameRows x = new RenameRows(1, 1, 4);
        Made.idle(x, 4);
        for (int k = 0; k < 4; k++) {
            Check.due("one goes", x.select(1), 1);
            Check.due("by age", x.selected(0), k);
        }
    }

    private static void theOldestRoundTheRing() {
        Check.about(PROMISE, "the oldest row (round the end of the ring)");
        for (int done = 1; done < 5; done++) {
            RenameRows x = new RenameRows(1, 1, 5);
            Made.moves(x, done);
            x.commit(done);
            Made.idle(x, 5);
            for (int k = 0; k < 5; k++) {
                Check.due("one goes", x.select(1), 1);
                Check.due("by age, not by place", x.selected(0), (done + k) % 5);
            }
            Check.due("then no more", x.select(1), 0);
        }
    }

    private static void thatIsWaiting() {
        Check.about(PROMISE, "that is waiting");
        RenameRows x = new RenameRows(1, 1, 4);
        Made.idle(x, 2);
        x.move(0, 0);
        Made.idle(x, 1);
        x.select(1);
        x.select(1);
        x.end(0);
        Check.due("neither ended, going nor moved ones", x.select(1), 1);
        Check.due("but the last", x.selected(0), 3);
        Check.due("the ended one stays so", x.row(0, 6), 2);
        Check.due("the going one, too", x.row(1, 6), 1);
        RenameRows y = new RenameRows(1, 1, 2);
        y.branch();
        Made.idle(y, 2);
        y.wrong(0);
        Check.due("nor what was taken back", y.select(8), 0);
    }

    private static void allThatItReadsIsReady() {
        Check.about(PROMISE, "and all that it reads is ready");
        int[][] reads = {{0, NONE}, {NONE, 0}, {0, 0}, {0, 1}, {1, 0}};
        for (int[] read : reads) {
            RenameRows x = new RenameRows(2, 2, 3);
            x.dispatch(NONE, NONE, 0);
            x.dispatch(read[0], read[1], NONE);
            Check.due("the giver goes", x.select(1), 1);
            Check.due("a reader of " + read[0] + " and " + read[1] + " does not", x.select(8), 0);
            x.end(0);
            Check.due("then it does", x.select(8), 1);
        }
        RenameRows y = new RenameRows(2, 2, 3);
        y.dispatch(NONE, NONE, 0);
        y.dispatch(NONE, NONE, 1);
        y.dispatch(0, 1, NONE);
        y.select(1);
        y.select(1);
        y.end(1);
        Check.due("one of two is not all", y.select(1), 0);
        y.end(0);
        Check.due("both are", y.select(1), 1);
        RenameRows z = new RenameRows(2, 2, 3);
        z.dispatch(NONE, NONE, 0);
        z.dispatch(1, NONE, NONE);
        z.dispatch(NONE, NONE, NONE);
        z.select(1);
        Check.due("another name is ready", z.select(1), 1);
        Check.due("nothing read is always there", z.select(1), 1);
    }

    private static void whatCanNotGoKeepsNobody() {
        Check.about(PROMISE, "the oldest row .. that is waiting, and all that it reads is ready (older ones that can't go are passed)");
        RenameRows x = new RenameRows(1, 4, 5);
        x.dispatch(0, NONE, 0);
        x.dispatch(0, NONE, 0);
        x.dispatch(0, NONE, 0);
        Made.idle(x, 1);
        Check.due("row 0", x.select(1), 1);
        Check.due("rows 1 and 2 wait", x.select(1), 1);
        Check.due("row 3 goes", x.selected(0), 3);
    }

    private static void goingMakesNothingReady() {
        Check.about(PROMISE, "and all that it reads is ready (not by a row that goes in the same call)");
        RenameRows x = new RenameRows(1, 2, 2);
        x.dispatch(NONE, NONE, 0);
        x.dispatch(0, NONE, NONE);
        x.port(1, 1);
        Check.due("the first alone", x.select(2), 1);
        Check.due("the second not", x.selected(1), NONE);
        Check.due("nor a call later", x.select(2), 0);
    }

    private static void howMany() {
        Check.about(PROMISE, "goes: how many");
        Check.due("of no rows", new RenameRows(1, 1, 1).select(8), 0);
        RenameRows x = aRowForEachPort();
        Check.due("one", x.select(1), 1);
        Check.due("no other there", x.select(1), 0);
        Check.due("six", x.select(7), 6);
        Check.due("the last", x.select(8), 1);
        Check.due("none", x.select(8), 0);
    }

    private static void portsAreNotOneToEight() {
        Check.about(PROMISE, "IllegalArgumentException, when ports are not 1 .. 8");
        for (int bad : new int[] {0, -1, -8, 9, 10, Integer.MIN_VALUE, Integer.MAX_VALUE}) {
            Check.refusedForArgument("ports " + bad, Made::mixed, x -> x.select(bad));
            Check.refusedForArgument("a row for each, ports " + bad, Promise05Test::aRowForEachPort, x -> x.select(bad));
            Check.noArgument("a new object, ports " + bad, () -> new RenameRows(1, 1, 1).select(bad));
        }
    }
}
