/** Promise 17 (count): a test for each sentence that names a boundary. */
public final class Promise17Test {
    private static final int NONE = RenameRows.NONE;
    private static final String PROMISE = "Promise 17";

    public static void main(String[] args) {
        sizes();
        rowsInTheRing();
        freeNames();
        marks();
        rowsDone();
        rowsTakenBack();
        theOldestPlace();
        noneWithout();
        wantsOfAPlace();
        wantsOfAName();
        noneForAnotherWhat();
        changesNothing();
        Check.close();
    }

    private static void sizes() {
        Check.about(PROMISE, "R (0), P (1), N (2)");
        RenameRows x = new RenameRows(3, 7, 5);
        Made.oneByOne(x, 12);
        Check.due("R", x.count(0), 3);
        Check.due("P", x.count(1), 10);
        Check.due("N", x.count(2), 5);
    }

    private static void rowsInTheRing() {
        Check.about(PROMISE, "rows in the ring (3)");
        RenameRows x = new RenameRows(1, 1, 64);
        Check.due("none", x.count(3), 0);
        for (int k = 1; k <= 64; k++) {
            x.move(0, 0);
            Check.due("after " + k, x.count(3), k);
        }
        x.move(0, 0);
        Check.due("full", x.count(3), 64);
        x.commit(60);
        Check.due("four stay", x.count(3), 4);
        x.branch();
        Made.idle(x, 5);
        Check.due("nine, round", x.count(3), 9);
        x.wrong(0);
        Check.due("four again", x.count(3), 4);
        x.commit(64);
        Check.due("none again", x.count(3), 0);
    }

    private static void freeNames() {
        Check.about(PROMISE, "free names (4)");
        RenameRows x = new RenameRows(2, 2, 8);
        Check.due("two", x.count(4), 2);
        x.dispatch(NONE, NONE, NONE);
        x.move(0, 1);
        Check.due("rows that take none", x.count(4), 2);
        x.branch();
        x.dispatch(NONE, NONE, 0);
        x.dispatch(NONE, NONE, 0);
        Check.due("none", x.count(4), 0);
        x.dispatch(NONE, NONE, 0);
        Check.due("still none", x.count(4), 0);
        x.wrong(0);
        Check.due("two again", x.count(4), 2);
        x.select(1);
        x.end(0);
        x.commit(2);
        Check.due("and the one that register 1 had", x.count(4), 3);
    }

    private static void marks() {
        Check.about(PROMISE, "marks (5)");
        RenameRows x = new RenameRows(1, 1, 1);
        for (int k = 0; k <= 8; k++) {
            Check.due("after " + k, x.count(5), k);
            x.branch();
        }
        Check.due("no ninth", x.count(5), 8);
        x.right(7);
        Check.due("right", x.count(5), 7);
        x.wrong(5);
        Check.due("wrong", x.count(5), 5);
        x.wrong(0);
        Check.due("none", x.count(5), 0);
    }

    private static void rowsDone() {
        Check.about(PROMISE, "rows done (6)");
        RenameRows x = new RenameRows(1, 1, 2);
        Check.due("none", x.count(6), 0);
        for (int k = 0; k < 100; k++) {
            x.move(0, 0);
            Check.due("ended is not done", x.count(6), k);
            x.commit(1);
        }
        Check.due("more than there are places", x.count(6), 100);
        x.branch();
        x.move(0, 0);
        x.commit(1);
        x.wrong(0);
        Check.due("taken back is not done", x.count(6), 100);
    }

    private static void rowsTakenBack() {
        Check.about(PROMISE, "rows taken back (7)");
        RenameRows x = new RenameRows(1, 1, 3);
        Check.due("none", x.count(7), 0);
        for (int k = 1; k <= 30; k++) {
            x.branch();
            Made.moves(x, 3);
            x.wrong(0);
            Check.due("in all", x.count(7), 3 * k);
        }
        x.branch();
        x.wrong(0);
        Check.due("no row more", x.count(7), 90);
        x.move(0, 0);
        x.commit(1);
        Check.due("done is not taken back", x.count(7), 90);
    }

    private static void theOldestPlace() {
        Check.about(PROMISE, "the place of the oldest row (8");
        RenameRows x = new RenameRows(1, 1, 3);
        for (int k = 0; k < 9; k++) {
            x.move(0, 0);
            Check.due("the only row", x.count(8), k % 3);
            x.move(0, 0);
            Check.due("the older of two", x.count(8), k % 3);
            x.commit(1);
            Check.due("the younger one", x.count(8), (k + 1) % 3);
            x.branch();
            x.wrong(0);
            x.commit(1);
            x.move(0, 0);
            x.commit(1);
            x.move(0, 0);
            x.commit(1);
        }
    }

    private static void noneWithout() {
        Check.about(PROMISE, "8; NONE without");
        RenameRows x = new RenameRows(1, 1, 3);
        Check.due("a new object", x.count(8), NONE);
        x.move(0, 0);
        x.commit(1);
        Check.due("all are done", x.count(8), NONE);
        x.branch();
        Made.idle(x, 3);
        Check.due("place 1", x.count(8), 1);
        x.wrong(0);
        Check.due("all were taken back", x.count(8), NONE);
        Made.idle(x, 1);
        Check.due("place 1 again", x.count(8), 1);
    }

    private static void wantsOfAPlace() {
        Check.about(PROMISE, "calls that answered NONE for want of a place (9)");
        RenameRows x = Made.full();
        Check.due("none yet", x.count(9), 0);
        x.dispatch(0, 0, 0);
        x.dispatch(NONE, NONE, NONE);
        x.move(0, 0);
        Check.due("three", x.count(9), 3);
        Check.noIndex("a call that throws", () -> x.dispatch(2, 0, 0));
        Check.noIndex("and another", () -> x.move(0, 2));
        Check.due("is none", x.count(9), 3);
        Check.due("no want of a name", x.count(10), 0);
        RenameRows y = Made.withoutFreeName();
        y.dispatch(0, 0, 0);
        Check.due("a want of a name is none", y.count(9), 0);
        for (int k = 0; k < 9; k++) {
            y.branch();
        }
        Check.due("a want of a mark is none", y.count(9), 0);
        Check.due("nor is selected's NONE", y.selected(0) + y.count(9), NONE);
    }

    private static void wantsOfAName() {
        Check.about(PROMISE, "calls that answered NONE for want .. of a name (10)");
        RenameRows x = Made.withoutFreeName();
        Check.due("none yet", x.count(10), 0);
        x.dispatch(0, 0, 0);
        x.dispatch(NONE, NONE, 1);
        Check.due("two", x.count(10), 2);
        x.dispatch(0, 0, NONE);
        x.move(0, 1);
        Check.due("rows that need none came", x.count(3), 3);
        Check.due("so they are no want", x.count(10), 2);
        Check.noIndex("a call that throws", () -> x.dispatch(2, 0, 0));
        Check.due("is none", x.count(10), 2);
        Made.idle(x, 1);
        x.dispatch(0, 0, 0);
        Check.due("the ring is full: a want of a place", x.count(9), 1);
        Check.due("not of a name", x.count(10), 2);
        for (int k = 0; k < 9; k++) {
            x.branch();
        }
        Check.due("a want of a mark is none", x.count(10), 2);
    }

    private static void noneForAnotherWhat() {
        Check.about(PROMISE, "NONE for another what");
        for (int what : Check.outside(11)) {
            Check.due("a new object, what " + what, new RenameRows(1, 1, 1).count(what), NONE);
            Check.onlyAnswers("what " + what, NONE, 0, 0, Made::mixed, x -> x.count(what));
        }
        Check.due("10 is the greatest", new RenameRows(1, 1, 1).count(10), 0);
    }

    private static void changesNothing() {
        Check.about(PROMISE, "int count(int what) (a call that only tells)");
        int[] want = {3, 9, 5, 3, 3, 2, 1, 0, 1, 0, 0};
        for (int k = 0; k < want.length; k++) {
            int what = k;
            Check.onlyAnswers("what " + what, want[k], 0, 0, Made::mixed, x -> x.count(what));
        }
    }
}
