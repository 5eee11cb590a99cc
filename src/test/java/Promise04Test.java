/** Promise 4 (port): a test for each sentence that names a boundary. */
public final class Promise04Test {
    private static final int NONE = RenameRows.NONE;
    private static final String PROMISE = "Promise 4";

    public static void main(String[] args) {
        zeroToSeven();
        zeroAtFirst();
        theOneBefore();
        noSuchPlace();
        noRowThere();
        notWaiting();
        noSuchPort();
        Check.close();
    }

    private static void zeroToSeven() {
        Check.about(PROMISE, "A row's port (0 .. 7");
        for (int port = 0; port <= 7; port++) {
            RenameRows x = new RenameRows(1, 1, 2);
            Made.idle(x, 2);
            Check.due("port " + port, x.port(1, port), 0);
            Check.due("it is told", x.row(1, 5), port);
            Check.due("the other row's stays", x.row(0, 5), 0);
            x.select(8);
            Check.due("the row goes there", x.selected(port), port == 0 ? 0 : 1);
        }
    }

    private static void zeroAtFirst() {
        Check.about(PROMISE, "0 at first");
        RenameRows x = new RenameRows(1, 4, 2);
        x.branch();
        Made.idle(x, 1);
        Check.due("a new row", x.row(0, 5), 0);
        x.port(0, 5);
        x.wrong(0);
        Made.idle(x, 1);
        Check.due("a new row where one was taken back", x.row(0, 5), 0);
        x.port(0, 6);
        x.select(8);
        x.end(0);
        x.commit(1);
        Made.moves(x, 1);
        Made.idle(x, 1);
        Check.due("a new row where one was done", x.port(0, 3), 0);
        RenameRows y = new RenameRows(1, 1, 1);
        y.branch();
        Made.idle(y, 1);
        y.port(0, 7);
        y.wrong(0);
        Made.moves(y, 1);
        Check.due("a move, too", y.row(0, 5), 0);
    }

    private static void theOneBefore() {
        Check.about(PROMISE, "the one before");
        RenameRows x = new RenameRows(1, 1, 1);
        Made.idle(x, 1);
        int before = 0;
        for (int port : new int[] {7, 7, 0, 0, 1, 6, 3}) {
            Check.due("before " + port, x.port(0, port), before);
            before = port;
        }
        Check.due("the last one counts", x.select(3), 0);
        Check.due("and it is 3", x.select(4), 1);
    }

    private static void noSuchPlace() {
        Check.about(PROMISE, "ArrayIndexOutOfBoundsException, when there is no such place");
        for (int bad : Check.outside(5)) {
            Check.refusedForIndex("place " + bad, Made::mixed, x -> x.port(bad, 1));
            Check.refusedForIndex("nor a port, place " + bad, Made::mixed, x -> x.port(bad, 8));
        }
        for (int places : new int[] {1, 63, 64}) {
            RenameRows x = new RenameRows(1, 1, places);
            Made.idle(x, places);
            Check.due("the last place", x.port(places - 1, 2), 0);
            Check.noIndex("one too great", () -> x.port(places, 2));
        }
    }

    private static void noRowThere() {
        Check.about(PROMISE, "IllegalStateException, when no row is there");
        Check.refusedForState("done", Made::mixed, x -> x.port(0, 1));
        Check.refusedForState("never one", Made::mixed, x -> x.port(4, 1));
        Check.refusedForState("nor a port", Made::mixed, x -> x.port(4, 8));
        Check.refusedForState("taken back", Promise04Test::takenBack, x -> x.port(3, 1));
        Check.noState("a new object", () -> new RenameRows(1, 1, 1).port(0, 0));
    }

    private static RenameRows takenBack() {
        RenameRows x = Made.mixed();
        x.wrong(1);
        return x;
    }

    private static void notWaiting() {
        Check.about(PROMISE, "IllegalStateException, when .. it is not waiting");
        Check.refusedForState("ended", Made::mixed, x -> x.port(1, 1));
        Check.refusedForState("going", Made::mixed, x -> x.port(2, 1));
        Check.refusedForState("ended, nor a port", Made::mixed, x -> x.port(1, -1));
        Check.refusedForState("going, nor a port", Made::mixed, x -> x.port(2, 8));
        Check.refusedForState("a move", Promise04Test::moved, x -> x.port(0, 0));
    }

    private static RenameRows moved() {
        RenameRows x = new RenameRows(2, 1, 2);
        x.move(0, 1);
        return x;
    }

    private static void noSuchPort() {
        Check.about(PROMISE, "IllegalArgumentException, when there is no such port");
        for (int bad : Check.outside(8)) {
            Check.refusedForArgument("port " + bad, Made::mixed, x -> x.port(3, bad));
        }
        RenameRows x = Made.mixed();
        Check.noArgument("NONE is no port", () -> x.port(3, NONE));
        Check.due("the port stays", x.row(3, 5), 4);
    }
}
