/** Promise 9 (branch), promise 10 (right) and promise 11 (wrong). */
public final class BranchTest {
    private static final int NONE = RenameRows.NONE;

    public static void main(String[] args) {
        lowestFreeMark();
        rightFrees();
        wrongTakesBack();
        wrongFreesWhatCameAfter();
        wrongAfterSomeAreDone();
        refuses();
        Check.close();
    }

    private static void lowestFreeMark() {
        RenameRows x = new RenameRows(1, 1, 1);
        for (int mark = 0; mark < 8; mark++) {
            Check.due("marks in order", x.branch(), mark);
        }
        Check.due("no mark is free", x.branch(), NONE);
        Check.due("eight", x.count(5), 8);
        x.right(5);
        x.right(2);
        Check.due("the lowest", x.branch(), 2);
        Check.due("the next", x.branch(), 5);
        Check.due("none again", x.branch(), NONE);
    }

    private static void rightFrees() {
        RenameRows x = new RenameRows(1, 4, 4);
        x.branch();
        x.move(0, 0);
        x.branch();
        x.branch();
        Check.due("two are left", x.right(1), 2);
        Check.noState("it is free", () -> x.right(1));
        Check.due("no row left", x.count(3), 1);
        Check.due("one is left", x.right(0), 1);
        Check.due("none is left", x.right(2), 0);
    }

    private static void wrongTakesBack() {
        RenameRows x = new RenameRows(3, 5, 8);
        x.dispatch(0, 1, 2);
        x.branch();
        x.dispatch(2, NONE, 2);
        x.dispatch(NONE, NONE, NONE);
        x.move(2, 0);
        x.dispatch(0, 0, 1);
        x.dispatch(1, 1, 2);
        Check.due("shared", x.shares(4), 2);
        Check.due("five left", x.wrong(0), 5);
        Check.due("register 0", x.name(0), 0);
        Check.due("register 1", x.name(1), 1);
        Check.due("register 2", x.name(2), 3);
        Check.queueIs("the last one first", x, 7, 6, 5, 4);
        Check.due("no shares", x.shares(4), 0);
        Check.due("the row before stays", x.row(0, 2), 3);
        Check.due("one row", x.count(3), 1);
        x.branch();
        Check.due("no row behind it", x.wrong(0), 0);
        x.dispatch(2, 2, NONE);
        Check.due("its name is not ready", x.select(1), 1);
        Check.due("the reader waits", x.select(1), 0);
        Check.due("until it ends", x.end(0), 1);
    }

    private static void wrongFreesWhatCameAfter() {
        RenameRows x = new RenameRows(1, 4, 8);
        x.branch();
        x.move(0, 0);
        x.branch();
        x.move(0, 0);
        x.branch();
        Check.due("one row behind mark 1", x.wrong(1), 1);
        Check.due("mark 0 stays", x.count(5), 1);
        Check.noState("mark 1 is free", () -> x.wrong(1));
        Check.noState("mark 2 is free", () -> x.right(2));
        Check.due("mark 1 again", x.branch(), 1);
        x.right(0);
        Check.due("mark 0 came after mark 1 now", x.branch(), 0);
        Check.due("no row behind it", x.wrong(0), 0);
        Check.due("mark 1 came before it, at the same row", x.count(5), 1);
        Check.due("and is taken", x.right(1), 0);
        x.branch();
        x.branch();
        x.right(0);
        x.branch();
        Check.due("none", x.wrong(1), 0);
        Check.due("both are free", x.count(5), 0);
    }

    private static void wrongAfterSomeAreDone() {
        RenameRows x = new RenameRows(2, 8, 4);
        for (int k = 0; k < 6; k++) {
            x.move(0, 1);
            x.commit(1);
        }
        x.move(0, 0);
        x.branch();
        x.dispatch(NONE, NONE, 0);
        x.dispatch(NONE, NONE, 1);
        x.select(1);
        x.end(3);
        Check.due("one is done", x.commit(4), 1);
        Check.due("an ended and a waiting row left", x.wrong(0), 2);
        Check.due("no row", x.count(3), 0);
        Check.due("names as they were", x.name(0), 0);
        Check.due("and here", x.name(1), 0);
        Check.queueIs("given back", x, 4, 5, 6, 7, 8, 9, 1, 3, 2);
        Check.due("behind the last one done", x.move(1, 1), 3);
    }

    private static void refuses() {
        RenameRows x = new RenameRows(1, 1, 2);
        x.branch();
        x.move(0, 0);
        for (int bad : new int[] {-1, 8, Integer.MIN_VALUE, Integer.MAX_VALUE}) {
            Check.noIndex("right " + bad, () -> x.right(bad));
            Check.noIndex("wrong " + bad, () -> x.wrong(bad));
        }
        for (int free = 1; free < 8; free++) {
            int mark = free;
            Check.noState("right of the free " + mark, () -> x.right(mark));
            Check.noState("wrong of the free " + mark, () -> x.wrong(mark));
        }
        Check.due("nothing left by that", x.count(3), 1);
        Check.due("nothing free by that", x.count(5), 1);
    }
}
