/** Promise 6 (selected): a test for each sentence that names a boundary. */
public final class Promise06Test {
    private static final int NONE = RenameRows.NONE;
    private static final String PROMISE = "Promise 6";

    public static void main(String[] args) {
        thePlaceOfTheRow();
        inTheLatestSelect();
        aRefusedSelectIsNone();
        whatWentStaysTold();
        noneWithout();
        noPort();
        Check.close();
    }

    private static void thePlaceOfTheRow() {
        Check.about(PROMISE, "The place of the row that went to a port");
        for (int port = 0; port <= 7; port++) {
            RenameRows x = new RenameRows(1, 1, 3);
            Made.moves(x, 2);
            Made.idle(x, 1);
            x.port(2, port);
            x.select(8);
            for (int other = 0; other <= 7; other++) {
                Check.due("port " + other, x.selected(other), other == port ? 2 : NONE);
            }
        }
        RenameRows y = new RenameRows(1, 1, 64);
        Made.moves(y, 63);
        Made.idle(y, 1);
        y.select(1);
        Check.due("the last place", y.selected(0), 63);
        y.commit(63);
        Made.idle(y, 1);
        y.select(1);
        Check.due("place 0, round", y.selected(0), 0);
    }

    private static void inTheLatestSelect() {
        Check.about(PROMISE, "in the latest select()");
        RenameRows x = new RenameRows(1, 1, 4);
        Made.idle(x, 4);
        x.port(1, 7);
        x.port(3, 7);
        x.select(8);
        Check.due("port 0", x.selected(0), 0);
        Check.due("port 7", x.selected(7), 1);
        x.select(1);
        Check.due("port 0 again", x.selected(0), 2);
        Check.due("port 7 was not asked in the latest", x.selected(7), NONE);
        x.select(8);
        Check.due("no row for port 0 any more", x.selected(0), NONE);
        Check.due("port 7 again", x.selected(7), 3);
        x.select(8);
        Check.due("none went in the latest", x.selected(7), NONE);
    }

    private static void aRefusedSelectIsNone() {
        Check.about(PROMISE, "in the latest select() (one that throws is none)");
        RenameRows x = new RenameRows(1, 1, 2);
        Made.idle(x, 2);
        x.port(1, 3);
        x.select(8);
        for (int bad : new int[] {0, 9, -1}) {
            Check.noArgument("refused", () -> x.select(bad));
            Check.due("port 0", x.selected(0), 0);
            Check.due("port 3", x.selected(3), 1);
        }
    }

    private static void whatWentStaysTold() {
        Check.about(PROMISE, "the row that went to a port in the latest select() (whatever came of it)");
        RenameRows x = new RenameRows(1, 1, 2);
        x.move(0, 0);
        x.commit(1);
        Made.idle(x, 1);
        x.select(1);
        Check.due("going", x.selected(0), 1);
        x.end(1);
        Check.due("ended", x.selected(0), 1);
        x.commit(1);
        Check.due("done", x.selected(0), 1);
        RenameRows y = new RenameRows(1, 1, 2);
        y.branch();
        Made.idle(y, 1);
        y.select(1);
        y.wrong(0);
        Check.due("taken back", y.selected(0), 0);
        Made.moves(y, 1);
        Check.due("another row is there", y.selected(0), 0);
    }

    private static void noneWithout() {
        Check.about(PROMISE, "NONE without");
        RenameRows x = new RenameRows(1, 1, 2);
        for (int port = 0; port <= 7; port++) {
            Check.due("no select yet, port " + port, x.selected(port), NONE);
        }
        x.select(8);
        for (int port = 0; port <= 7; port++) {
            Check.due("none went, port " + port, x.selected(port), NONE);
        }
    }

    private static void noPort() {
        Check.about(PROMISE, "ArrayIndexOutOfBoundsException, when there is no port 0 .. 7");
        for (int bad : Check.outside(8)) {
            Check.refusedForIndex("port " + bad, Made::mixed, x -> x.selected(bad));
            Check.noIndex("a new object, port " + bad, () -> new RenameRows(1, 1, 1).selected(bad));
        }
        RenameRows x = new RenameRows(1, 1, 1);
        Made.idle(x, 1);
        x.select(1);
        Check.noIndex("8 is none after a select, either", () -> x.selected(8));
    }
}
