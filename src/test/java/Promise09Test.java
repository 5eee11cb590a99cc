/** Promise 9 (branch): a test for each sentence that names a boundary. */
public final class Promise09Test {
    private static final int NONE = RenameRows.NONE;
    private static final String PROMISE = "Promise 9";

    public static void main(String[] args) {
        behindTheRowsThatThereAre();
        behindRowsThatAreDone();
        inAnEmptyAndAFullRing();
        theLowestThatIsFree();
        orNone();
        Check.close();
    }

    private static void behindTheRowsThatThereAre() {
        Check.about(PROMISE, "A branch is here, behind the rows that there are");
        RenameRows x = new RenameRows(1, 1, 6);
        for (int mark = 0; mark < 6; mark++) {
            Check.due("a mark", x.branch(), mark);
            Made.idle(x, 1);
        }
        Check.due("one row came behind mark 5", x.wrong(5), 1);
        Check.due("three behind mark 2", x.wrong(2), 3);
        Check.due("the other two", x.wrong(0), 2);
    }

    private static void behindRowsThatAreDone() {
        Check.about(PROMISE, "behind the rows that there are (when others were done, or taken back, before)");
        RenameRows x = new RenameRows(1, 1, 3);
        for (int k = 0; k < 5; k++) {
            x.move(0, 0);
            x.commit(1);
        }
        Made.moves(x, 1);
        Check.due("behind one row, five are done", x.branch(), 0);
        Made.moves(x, 2);
        Check.due("two came behind it", x.wrong(0), 2);
        Check.due("behind one row again", x.branch(), 0);
        Made.moves(x, 1);
        Check.due("the one before it is done", x.commit(3), 1);
        Check.due("one came behind it", x.wrong(0), 1);
    }

    private static void inAnEmptyAndAFullRing() {
        Check.about(PROMISE, "behind the rows that there are (none, or as many as there are places)");
        RenameRows x = new RenameRows(1, 1, 2);
        Check.due("an empty ring", x.branch(), 0);
        Made.moves(x, 2);
        Check.due("a full one", x.branch(), 1);
        Check.due("no row is behind it", x.wrong(1), 0);
        Check.due("both are behind the other", x.wrong(0), 2);
        Check.due("the ring is empty", x.count(3), 0);
    }

    private static void theLowestThatIsFree() {
        Check.about(PROMISE, "the lowest mark that is free");
        for (int freed = 0; freed <= 7; freed++) {
            RenameRows x = new RenameRows(1, 1, 1);
            for (int mark = 0; mark <= 7; mark++) {
                Check.due("in their order", x.branch(), mark);
            }
            x.right(freed);
            Check.due("the one that is free", x.branch(), freed);
        }
        RenameRows y = new RenameRows(1, 1, 1);
        for (int k = 0; k < 8; k++) {
            y.branch();
        }
        y.right(6);
        y.right(1);
        y.right(3);
        Check.due("1", y.branch(), 1);
        Check.due("3", y.branch(), 3);
        Check.due("6", y.branch(), 6);
        y.wrong(0);
        Check.due("0, when all are free", y.branch(), 0);
    }

    private static RenameRows withAllMarks() {
        RenameRows x = new RenameRows(2, 1, 4);
        for (int k = 0; k < 8; k++) {
            x.branch();
            if (k % 2 == 0) {
                x.move(0, 1);
            }
        }
        return x;
    }

    private static void orNone() {
        Check.about(PROMISE, "the lowest mark that is free, or NONE");
        Check.onlyAnswers("all eight are taken", NONE, 0, 0, Promise09Test::withAllMarks, x -> x.branch());
        RenameRows x = withAllMarks();
        Check.due("none", x.branch(), NONE);
        Check.due("none again", x.branch(), NONE);
        Check.due("eight marks", x.count(5), 8);
        Check.due("no want of a place", x.count(9), 0);
        Check.due("nor of a name", x.count(10), 0);
        x.right(7);
        Check.due("one is free", x.branch(), 7);
        Check.due("none once more", x.branch(), NONE);
    }
}
