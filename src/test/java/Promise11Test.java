/** Promise 11 (wrong): a test for each sentence that names a boundary. */
public final class Promise11Test {
    private static final int NONE = RenameRows.NONE;
    private static final String PROMISE = "Promise 11";

    public static void main(String[] args) {
        rowsBehindItLeave();
        inWhateverState();
        roundTheRing();
        theLastOneFirst();
        givesBackTheNameThatItGave();
        theNameThatItHadBefore();
        withoutARegister();
        whatIsReadyStaysSo();
        thisMarkAndAllThatCameAfter();
        cameAfterAtTheSameRow();
        howManyRowsLeft();
        noSuchMark();
        whenItIsFree();
        Check.close();
    }

    private static void rowsBehindItLeave() {
        Check.about(PROMISE, "rows behind it leave the ring");
        for (int before = 0; before <= 4; before++) {
            RenameRows x = new RenameRows(1, 1, 4);
            Made.idle(x, before);
            x.branch();
            Made.idle(x, 4 - before);
            Check.due("behind the mark", x.wrong(0), 4 - before);
            Check.due("before the mark", x.count(3), before);
            for (int k = 0; k < 4; k++) {
                int place = k;
                if (k < before) {
                    Check.due("it stays", x.row(k, 6), 0);
                } else {
                    Check.noState("it left", () -> x.row(place, 6));
                }
            }
            Check.due("the next place", before == 4 ? 4 : x.move(0, 0), before);
        }
    }

    private static void inWhateverState() {
        Check.about(PROMISE, "rows behind it leave the ring (waiting, going and ended ones)");
        RenameRows x = new RenameRows(1, 4, 5);
        x.branch();
        x.dispatch(NONE, NONE, 0);
        x.dispatch(NONE, NONE, 0);
        x.dispatch(0, NONE, 0);
        x.move(0, 0);
        x.select(1);
        x.end(0);
        x.select(1);
        Check.due("all four", x.wrong(0), 4);
        Check.due("none is left", x.count(3), 0);
        Check.due("nothing was done", x.count(6), 0);
        Check.due("the name of the beginning", x.name(0), 0);
        Check.due("nothing goes", x.select(8), 0);
    }

    private static void roundTheRing() {
        Check.about(PROMISE, "rows behind it leave the ring (round the end of the ring)");
        RenameRows x = new RenameRows(2, 6, 4);
        Made.moves(x, 2);
        x.commit(2);
        x.dispatch(NONE, NONE, 0);
        x.branch();
        x.dispatch(NONE, NONE, 0);
        x.dispatch(NONE, NONE, 1);
        x.dispatch(NONE, NONE, 1);
        Check.due("places 3, 0 and 1", x.wrong(0), 3);
        Check.due("place 2 stays", x.count(8), 2);
        Check.due("register 0", x.name(0), 2);
        Check.due("register 1", x.name(1), 1);
        Check.queueIs("the last one first", x, 6, 7, 5, 4, 3);
        Check.due("place 3 is next", x.dispatch(NONE, NONE, NONE), 3);
        Check.due("then place 0", x.dispatch(NONE, NONE, NONE), 0);
    }

    private static void theLastOneFirst() {
        Check.about(PROMISE, "the last one first");
        RenameRows x = new RenameRows(3, 4, 4);
        x.branch();
        x.dispatch(NONE, NONE, 2);
        x.dispatch(NONE, NONE, 0);
        x.dispatch(NONE, NONE, 1);
        x.wrong(0);
        Check.queueIs("behind the one that was free", x, 6, 5, 4, 3);
    }

    private static void givesBackTheNameThatItGave() {
        Check.about(PROMISE, "each gives back the name that it gave");
        RenameRows x = new RenameRows(3, 3, 6);
        x.dispatch(NONE, NONE, 0);
        x.branch();
        x.move(0, 1);
        x.move(1, 2);
        x.dispatch(NONE, NONE, 0);
        Check.due("three shares", x.shares(3), 3);
        x.wrong(0);
        Check.due("two were given back", x.shares(3), 1);
        Check.due("the last share of this one", x.shares(4), 0);
        Check.queueIs("so only this one is free", x, 5, 4);
        for (int register = 0; register < 3; register++) {
            Check.due("the names they had keep their shares", x.shares(register), 1);
        }
        RenameRows y = new RenameRows(1, 1, 6);
        y.branch();
        y.dispatch(NONE, NONE, 0);
        y.move(0, 0);
        y.move(0, 0);
        y.wrong(0);
        Check.queueIs("it is free once, by the last share", y, 1);
    }

    private static void theNameThatItHadBefore() {
        Check.about(PROMISE, "its register has the name that it had before");
        RenameRows x = new RenameRows(2, 6, 6);
        x.dispatch(NONE, NONE, 0);
        x.branch();
        x.dispatch(NONE, NONE, 0);
        x.branch();
        x.dispatch(NONE, NONE, 0);
        x.move(0, 1);
        x.dispatch(NONE, NONE, 1);
        x.wrong(1);
        Check.due("register 0 behind mark 0", x.name(0), 3);
        Check.due("register 1 as it was", x.name(1), 1);
        x.wrong(0);
        Check.due("register 0 before mark 0", x.name(0), 2);
        Check.due("nothing is sure by that", x.sure(0), 0);
        x.dispatch(0, 1, NONE);
        Check.rowIs(x, 1, 2, 1);
    }

    private static void withoutARegister() {
        Check.about(PROMISE, "each gives back the name that it gave (a row that gave none gives none back)");
        RenameRows x = new RenameRows(2, 2, 4);
        x.branch();
        x.dispatch(0, 1, NONE);
        x.dispatch(NONE, NONE, NONE);
        Check.due("two left", x.wrong(0), 2);
        Check.queueIs("as it was", x, 2, 3);
        Check.due("register 0", x.name(0), 0);
        Check.due("register 1", x.name(1), 1);
        Check.due("shares of 0", x.shares(0), 1);
        Check.due("shares of 1", x.shares(1), 1);
    }

    private static void whatIsReadyStaysSo() {
        Check.about(PROMISE, "its register has the name that it had before (ready or not, as that name is)");
        RenameRows x = new RenameRows(1, 3, 4);
        x.dispatch(NONE, NONE, 0);
        x.branch();
        x.dispatch(NONE, NONE, 0);
        x.select(1);
        x.select(1);
        x.end(1);
        x.wrong(0);
        x.dispatch(0, NONE, NONE);
        Check.due("the first row's name is not ready", x.select(8), 0);
        Check.due("until it ends", x.end(0), 1);
        x.branch();
        x.dispatch(NONE, NONE, 0);
        x.wrong(0);
        x.dispatch(0, NONE, NONE);
        Check.due("now it is, and both readers go", x.select(1) + x.select(1), 2);
    }

    private static void thisMarkAndAllThatCameAfter() {
        Check.about(PROMISE, "this mark, and all that came after it, are free");
        for (int mark = 0; mark <= 7; mark++) {
            RenameRows x = new RenameRows(1, 1, 8);
            for (int k = 0; k <= 7; k++) {
                x.branch();
                Made.idle(x, 1);
            }
            Check.due("rows", x.wrong(mark), 8 - mark);
            Check.due("marks before it stay", x.count(5), mark);
            for (int k = 0; k <= 7; k++) {
                int asked = k;
                if (k >= mark) {
                    Check.noState("mark " + k + " is free", () -> x.right(asked));
                }
            }
            for (int k = mark - 1; k >= 0; k--) {
                Check.due("mark " + k + " is taken", x.right(k), k);
            }
        }
        RenameRows y = new RenameRows(1, 1, 8);
        for (int k = 0; k < 3; k++) {
            y.branch();
            Made.idle(y, 1);
        }
        y.right(0);
        y.branch();
        Made.idle(y, 1);
        Check.due("mark 0 came last: only it is free", y.wrong(0), 1);
        Check.due("marks 1 and 2 stay", y.count(5), 2);
        y.branch();
        Check.due("mark 1 came before 0 and 2", y.wrong(1), 2);
        Check.due("all are free", y.count(5), 0);
    }

    private static void cameAfterAtTheSameRow() {
        Check.about(PROMISE, "this mark, and all that came after it, are free (with no row between them)");
        RenameRows x = new RenameRows(1, 1, 2);
        x.branch();
        x.branch();
        x.branch();
        Made.idle(x, 1);
        Check.due("the row behind them", x.wrong(1), 1);
        Check.due("mark 0 came before it", x.count(5), 1);
        Check.noState("mark 2 came after it", () -> x.right(2));
        Check.noState("mark 1 is free", () -> x.right(1));
        Check.due("mark 0 is taken", x.wrong(0), 0);
        for (int k = 0; k <= 7; k++) {
            x.branch();
        }
        Check.due("no row", x.wrong(0), 0);
        Check.due("all eight are free", x.count(5), 0);
    }

    private static void howManyRowsLeft() {
        Check.about(PROMISE, "how many rows left");
        RenameRows x = new RenameRows(1, 1, 64);
        x.branch();
        Check.due("none is behind it", x.wrong(0), 0);
        Check.due("none was taken back", x.count(7), 0);
        x.branch();
        Made.idle(x, 64);
        Check.due("a full ring", x.wrong(0), 64);
        Check.due("taken back", x.count(7), 64);
        Made.moves(x, 3);
        x.commit(2);
        x.branch();
        Made.moves(x, 2);
        x.commit(2);
        Check.due("those that are done are not behind it", x.wrong(0), 2);
        Check.due("taken back, in all", x.count(7), 66);
        Check.due("done", x.count(6), 3);
    }

    private static void noSuchMark() {
        Check.about(PROMISE, "ArrayIndexOutOfBoundsException, when there is no such mark");
        for (int bad : Check.outside(8)) {
            Check.refusedForIndex("mark " + bad, Made::mixed, x -> x.wrong(bad));
            Check.noIndex("a new object, mark " + bad, () -> new RenameRows(1, 1, 1).wrong(bad));
        }
    }

    private static void whenItIsFree() {
        Check.about(PROMISE, "IllegalStateException, when it is free");
        for (int mark = 0; mark <= 7; mark++) {
            int free = mark;
            Check.noState("a new object, mark " + mark, () -> new RenameRows(1, 1, 1).wrong(free));
            if (mark > 1) {
                Check.refusedForState("never taken, mark " + mark, Made::mixed, x -> x.wrong(free));
            }
        }
        Check.refusedForState("was right", Promise11Test::afterRight, x -> x.wrong(0));
        Check.refusedForState("was wrong", Promise11Test::afterWrong, x -> x.wrong(0));
        Check.refusedForState("came after the wrong one", Promise11Test::afterWrong, x -> x.wrong(1));
    }

    private static RenameRows afterRight() {
        RenameRows x = Made.mixed();
        x.right(0);
        return x;
    }

    private static RenameRows afterWrong() {
        RenameRows x = Made.mixed();
        x.wrong(0);
        return x;
    }
}
