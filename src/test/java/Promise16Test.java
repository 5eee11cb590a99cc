/** Promise 16 (row): a test for each sentence that names a boundary. */
public final class Promise16Test {
    private static final int NONE = RenameRows.NONE;
    private static final String PROMISE = "Promise 16";

    public static void main(String[] args) {
        whatItReads();
        theNameThatItGave();
        theNameThatItKnows();
        itsRegister();
        allNoneWithoutOne();
        itsPort();
        waitingGoingEnded();
        aUsedPlace();
        noSuchPlace();
        noRowThere();
        anotherWhat();
        Check.close();
    }

    private static void whatItReads() {
        Check.about(PROMISE, "what it reads (what 0, 1)");
        RenameRows x = new RenameRows(32, 1, 8);
        x.dispatch(31, 0, NONE);
        x.dispatch(0, 31, NONE);
        x.dispatch(NONE, 5, NONE);
        x.dispatch(5, NONE, NONE);
        x.dispatch(NONE, NONE, NONE);
        x.move(7, 7);
        Check.rowIs(x, 0, 31, 0);
        Check.rowIs(x, 1, 0, 31);
        Check.rowIs(x, 2, NONE, 5);
        Check.rowIs(x, 3, 5, NONE);
        Check.rowIs(x, 4, NONE, NONE);
        Check.rowIs(x, 5, 7, NONE);
    }

    private static void theNameThatItGave() {
        Check.about(PROMISE, "the name that it gave (2)");
        RenameRows x = new RenameRows(2, 2, 4);
        x.dispatch(0, 0, 1);
        x.dispatch(0, 0, 1);
        x.move(1, 0);
        x.move(0, 1);
        Check.due("the first free one", x.row(0, 2), 2);
        Check.due("the last free one", x.row(1, 2), 3);
        Check.due("what it moved", x.row(2, 2), 3);
        Check.due("and again", x.row(3, 2), 3);
    }

    private static void theNameThatItKnows() {
        Check.about(PROMISE, "that it knows (3)");
        RenameRows x = new RenameRows(2, 2, 4);
        x.dispatch(0, 0, 1);
        x.dispatch(0, 0, 1);
        x.move(1, 0);
        x.move(0, 0);
        Check.due("of the beginning", x.row(0, 3), 1);
        Check.due("of the row before", x.row(1, 3), 2);
        Check.due("of a move's register", x.row(2, 3), 0);
        Check.due("its own", x.row(3, 3), 3);
    }

    private static void itsRegister() {
        Check.about(PROMISE, "its register (4");
        RenameRows x = new RenameRows(32, 2, 4);
        x.dispatch(1, 2, 0);
        x.dispatch(1, 2, 31);
        x.move(1, 0);
        x.move(1, 31);
        Check.due("the first", x.row(0, 4), 0);
        Check.due("the last", x.row(1, 4), 31);
        Check.due("of a move the first", x.row(2, 4), 0);
        Check.due("of a move the last", x.row(3, 4), 31);
    }

    private static void allNoneWithoutOne() {
        Check.about(PROMISE, "all NONE without one");
        RenameRows x = new RenameRows(2, 2, 2);
        x.dispatch(1, 0, NONE);
        Check.rowIs(x, 0, 1, 0, NONE, NONE, NONE, 0, 0);
        x.select(1);
        x.end(0);
        Check.rowIs(x, 0, 1, 0, NONE, NONE, NONE, 0, 2);
        x.dispatch(NONE, NONE, NONE);
        Check.rowIs(x, 1, NONE, NONE, NONE, NONE, NONE, 0, 0);
    }

    private static void itsPort() {
        Check.about(PROMISE, "its port (5)");
        RenameRows x = new RenameRows(1, 1, 2);
        Made.idle(x, 1);
        Made.moves(x, 1);
        Check.due("0 at first", x.row(0, 5), 0);
        Check.due("a move's", x.row(1, 5), 0);
        x.port(0, 7);
        Check.due("the greatest", x.row(0, 5), 7);
        x.select(8);
        Check.due("when it is going", x.row(0, 5), 7);
        x.end(0);
        Check.due("when it has ended", x.row(0, 5), 7);
    }

    private static void waitingGoingEnded() {
        Check.about(PROMISE, "0 waiting, 1 going, 2 ended (6)");
        RenameRows x = Made.mixed();
        Check.due("ended", x.row(1, 6), 2);
        Check.due("going", x.row(2, 6), 1);
        Check.due("waiting", x.row(3, 6), 0);
        x.move(0, 0);
        Check.due("a move", x.row(4, 6), 2);
    }

    private static void aUsedPlace() {
        Check.about(PROMISE, "Of the row at a place of the ring (the one that is there now)");
        RenameRows x = new RenameRows(2, 4, 1);
        x.dispatch(0, 1, 1);
        x.port(0, 3);
        x.select(8);
        x.end(0);
        x.commit(1);
        x.dispatch(NONE, 1, NONE);
        Check.rowIs(x, 0, NONE, 2, NONE, NONE, NONE, 0, 0);
        x.select(1);
        x.end(0);
        x.commit(1);
        x.move(0, 1);
        Check.rowIs(x, 0, 0, NONE, 0, 2, 1, 0, 2);
        x.commit(1);
        x.branch();
        x.dispatch(NONE, NONE, NONE);
        x.wrong(0);
        x.dispatch(1, 0, 0);
        Check.rowIs(x, 0, 0, 0, 3, 0, 0, 0, 0);
    }

    private static void noSuchPlace() {
        Check.about(PROMISE, "ArrayIndexOutOfBoundsException, when there is no such place");
        for (int bad : Check.outside(5)) {
            Check.refusedForIndex("place " + bad, Made::mixed, x -> x.row(bad, 0));
            Check.refusedForIndex("nor a what, place " + bad, Made::mixed, x -> x.row(bad, 7));
        }
        for (int places : new int[] {1, 2, 63, 64}) {
            RenameRows x = new RenameRows(1, 1, places);
            Made.moves(x, places);
            Check.due("the last place", x.row(places - 1, 6), 2);
            for (int bad : Check.outside(places)) {
                Check.noIndex("place " + bad + " of " + places, () -> x.row(bad, 6));
            }
        }
    }

    private static void noRowThere() {
        Check.about(PROMISE, "IllegalStateException, when no row is there");
        for (int what : new int[] {0, 1, 2, 3, 4, 5, 6, 7, -1}) {
            Check.refusedForState("done, what " + what, Made::mixed, x -> x.row(0, what));
            Check.refusedForState("never one, what " + what, Made::mixed, x -> x.row(4, what));
            Check.refusedForState("taken back, what " + what, Promise16Test::takenBack, x -> x.row(3, what));
            Check.noState("a new object, what " + what, () -> new RenameRows(1, 1, 1).row(0, what));
        }
        RenameRows y = new RenameRows(1, 1, 3);
        Made.moves(y, 2);
        y.commit(2);
        Made.moves(y, 2);
        Check.due("place 2", y.row(2, 6), 2);
        Check.due("place 0, round", y.row(0, 6), 2);
        Check.noState("none at place 1, between the last and the oldest", () -> y.row(1, 6));
    }

    private static RenameRows takenBack() {
        RenameRows x = Made.mixed();
        x.wrong(1);
        return x;
    }

    private static void anotherWhat() {
        Check.about(PROMISE, "IllegalArgumentException, for another what");
        for (int bad : Check.outside(7)) {
            for (int place = 1; place <= 3; place++) {
                int row = place;
                Check.refusedForArgument("what " + bad, Made::mixed, x -> x.row(row, bad));
            }
        }
        Check.due("6 is the greatest", Made.mixed().row(3, 6), 0);
        Check.due("0 is the least", Made.mixed().row(3, 0), 5);
    }
}
