/** Promise 7 (end): a test for each sentence that names a boundary. */
public final class Promise07Test {
    private static final int NONE = RenameRows.NONE;
    private static final String PROMISE = "Promise 7";

    public static void main(String[] args) {
        aRowHasEnded();
        theNameIsReady();
        howManyWaitingRows();
        allThatTheyRead();
        forTheFirstTime();
        onlyWaitingRows();
        aRowThatGaveNothing();
        roundTheRing();
        noSuchPlace();
        noRowThere();
        notGoing();
        Check.close();
    }

    private static void aRowHasEnded() {
        Check.about(PROMISE, "A row has ended");
        RenameRows x = new RenameRows(1, 1, 3);
        Made.idle(x, 3);
        x.select(1);
        x.select(1);
        x.select(1);
        for (int place : new int[] {2, 0, 1}) {
            Check.due("going", x.row(place, 6), 1);
            Check.due("in any order", x.end(place), 0);
            Check.due("ended", x.row(place, 6), 2);
        }
        Check.due("all can be done", x.commit(3), 3);
    }

    private static void theNameIsReady() {
        Check.about(PROMISE, "the name that it gave is ready");
        RenameRows x = new RenameRows(1, 2, 5);
        x.dispatch(NONE, NONE, 0);
        x.select(1);
        x.dispatch(0, 0, NONE);
        Check.due("not before", x.select(1), 0);
        Check.due("one reader", x.end(0), 1);
        Check.due("ready", x.select(1), 1);
        x.dispatch(0, NONE, NONE);
        Check.due("and it stays so for later readers", x.select(1), 1);
        x.commit(1);
        x.dispatch(NONE, 0, NONE);
        Check.due("when its row is done, too", x.select(1), 1);
    }

    private static void howManyWaitingRows() {
        Check.about(PROMISE, "how many waiting rows have all that they read .. by that");
        for (int readers = 0; readers <= 7; readers++) {
            RenameRows x = new RenameRows(2, 2, 8);
            x.dispatch(NONE, NONE, 0);
            for (int k = 0; k < readers; k++) {
                int place = x.dispatch(k % 2 == 0 ? 0 : 1, k % 2 == 0 ? NONE : 0, NONE);
                x.port(place, k);
            }
            x.select(1);
            Check.due(readers + " readers, at any ports", x.end(0), readers);
        }
        RenameRows y = new RenameRows(2, 2, 4);
        y.dispatch(NONE, NONE, 0);
        y.dispatch(0, 0, NONE);
        y.move(0, 1);
        y.dispatch(1, 0, NONE);
        y.select(1);
        Check.due("a row that reads it twice is one, and so is one that reads it by another register", y.end(0), 2);
    }

    private static void allThatTheyRead() {
        Check.about(PROMISE, "have all that they read");
        RenameRows x = new RenameRows(2, 4, 8);
        x.dispatch(NONE, NONE, 0);
        x.dispatch(NONE, NONE, 1);
        x.dispatch(0, 1, NONE);
        x.dispatch(1, 0, NONE);
        x.dispatch(1, NONE, NONE);
        x.select(1);
        x.select(1);
        Check.due("those that read both want one more", x.end(1), 1);
        Check.due("now they have all", x.end(0), 2);
        RenameRows y = new RenameRows(1, 4, 4);
        y.dispatch(NONE, NONE, 0);
        y.dispatch(NONE, NONE, 0);
        y.dispatch(0, NONE, NONE);
        y.select(1);
        y.select(1);
        Check.due("an older name of the register is not what it reads", y.end(0), 0);
        Check.due("the newer one is", y.end(1), 1);
    }

    private static void forTheFirstTime() {
        Check.about(PROMISE, "for the first time");
        RenameRows x = new RenameRows(2, 4, 8);
        x.dispatch(NONE, NONE, 0);
        x.dispatch(NONE, NONE, 0);
        x.dispatch(1, 1, NONE);
        x.dispatch(NONE, NONE, NONE);
        x.dispatch(0, 1, NONE);
        x.select(1);
        x.select(1);
        Check.due("rows that had all before are not counted", x.end(0), 0);
        Check.due("only the reader of the second", x.end(1), 1);
        x.dispatch(0, 0, NONE);
        Check.due("rows 2, 3, 4 and 5 can go", x.select(1) + x.select(1) + x.select(1) + x.select(1), 4);
        Check.due("nobody is new by the end of a reader", x.end(2), 0);
    }

    private static void onlyWaitingRows() {
        Check.about(PROMISE, "how many waiting rows");
        RenameRows x = new RenameRows(2, 4, 8);
        x.dispatch(NONE, NONE, 0);
        x.move(0, 1);
        x.branch();
        x.dispatch(0, NONE, NONE);
        x.dispatch(0, NONE, NONE);
        x.wrong(0);
        x.select(1);
        Check.due("neither a move nor what was taken back", x.end(0), 0);
    }

    private static void aRowThatGaveNothing() {
        Check.about(PROMISE, "the name that it gave is ready (a row that gave none makes none ready)");
        RenameRows x = new RenameRows(1, 1, 4);
        x.dispatch(0, NONE, NONE);
        x.dispatch(NONE, NONE, 0);
        x.dispatch(0, 0, NONE);
        x.select(1);
        x.select(1);
        Check.due("nobody", x.end(0), 0);
        Check.due("the reader still waits", x.select(8), 0);
        Check.due("for the other", x.end(1), 1);
    }

    private static void roundTheRing() {
        Check.about(PROMISE, "how many waiting rows (round the end of the ring)");
        RenameRows x = new RenameRows(1, 1, 4);
        Made.moves(x, 3);
        x.commit(3);
        x.dispatch(NONE, NONE, 0);
        x.dispatch(0, NONE, NONE);
        x.dispatch(NONE, 0, NONE);
        x.dispatch(0, 0, NONE);
        x.select(1);
        Check.due("three behind the last place", x.end(3), 3);
    }

    private static void noSuchPlace() {
        Check.about(PROMISE, "ArrayIndexOutOfBoundsException, when there is no such place");
        for (int bad : Check.outside(5)) {
            Check.refusedForIndex("place " + bad, Made::mixed, x -> x.end(bad));
        }
        for (int places : new int[] {1, 63, 64}) {
            RenameRows x = new RenameRows(1, 1, places);
            Made.moves(x, places - 1);
            Made.idle(x, 1);
            x.select(1);
            Check.noIndex("one too great", () -> x.end(places));
            Check.due("the last place", x.end(places - 1), 0);
        }
    }

    private static void noRowThere() {
        Check.about(PROMISE, "IllegalStateException, when no row is there");
        Check.refusedForState("done", Made::mixed, x -> x.end(0));
        Check.refusedForState("never one", Made::mixed, x -> x.end(4));
        Check.refusedForState("taken back while it was going", Promise07Test::takenBack, x -> x.end(2));
        Check.noState("a new object", () -> new RenameRows(1, 1, 1).end(0));
    }

    private static RenameRows takenBack() {
        RenameRows x = Made.mixed();
        x.wrong(0);
        return x;
    }

    private static void notGoing() {
        Check.about(PROMISE, "IllegalStateException, when .. it is not going");
        Check.refusedForState("ended", Made::mixed, x -> x.end(1));
        Check.refusedForState("waiting", Made::mixed, x -> x.end(3));
        Check.refusedForState("waiting, and can go", Made::full, x -> x.end(0));
        Check.refusedForState("a move", Promise07Test::moved, x -> x.end(0));
        Check.refusedForState("a new row where a going one was taken back", Promise07Test::again, x -> x.end(2));
    }

    private static RenameRows moved() {
        RenameRows x = new RenameRows(2, 1, 2);
        x.move(0, 1);
        return x;
    }

    private static RenameRows again() {
        RenameRows x = takenBack();
        x.dispatch(0, 0, 0);
        return x;
    }
}
