/** Promise 8 (commit) and promise 13 (sure). */
public final class DoneTest {
    private static final int NONE = RenameRows.NONE;

    public static void main(String[] args) {
        inTheirOrder();
        givesBackNames();
        notBehindTheOldestMark();
        refuses();
        Check.close();
    }

    private static void inTheirOrder() {
        RenameRows x = new RenameRows(2, 8, 6);
        Check.due("an empty ring", x.commit(3), 0);
        x.dispatch(NONE, NONE, 0);
        x.dispatch(NONE, NONE, 0);
        x.dispatch(NONE, NONE, 1);
        x.move(1, 1);
        x.select(1);
        x.select(1);
        x.end(1);
        Check.due("the oldest has not ended", x.commit(9), 0);
        x.end(0);
        Check.due("up to none", x.commit(0), 0);
        Check.due("up to one", x.commit(1), 1);
        Check.due("sure by the first", x.sure(0), 2);
        Check.due("the name is another", x.name(0), 3);
        Check.due("as far as they have ended", x.commit(Integer.MAX_VALUE), 1);
        Check.due("sure by the second", x.sure(0), 3);
        Check.due("not sure yet", x.sure(1), 1);
        Check.due("two are there", x.count(3), 2);
        Check.due("two are done", x.count(6), 2);
        x.select(1);
        x.end(2);
        Check.due("a move is done in its turn", x.commit(2), 2);
        Check.due("sure by the move", x.sure(1), 4);
    }

    private static void givesBackNames() {
        RenameRows x = new RenameRows(3, 2, 6);
        x.move(0, 1);
        x.move(1, 2);
        x.move(2, 2);
        x.move(2, 0);
        Check.due("five shares", x.shares(0), 5);
        x.commit(1);
        Check.queueIs("1 behind all", x, 3, 4, 1);
        x.commit(1);
        Check.queueIs("2 behind all", x, 3, 4, 1, 2);
        x.commit(2);
        Check.due("shares given back", x.shares(0), 3);
        Check.queueIs("0 has shares", x, 3, 4, 1, 2);
        RenameRows y = new RenameRows(2, 2, 4);
        y.dispatch(NONE, NONE, 1);
        y.dispatch(NONE, NONE, NONE);
        y.dispatch(NONE, NONE, 0);
        for (int k = 0; k < 3; k++) {
            y.select(1);
            y.end(k);
        }
        Check.due("with and without a register", y.commit(3), 3);
        Check.queueIs("in the rows' order", y, 1, 0);
        y.dispatch(0, 1, 1);
        Check.due("a name that was free is given again", y.row(3, 2), 1);
        Check.due("it is not ready then", y.dispatch(1, NONE, NONE), 0);
        Check.due("row 3 goes", y.select(1), 1);
        Check.due("its reader can't", y.select(1), 0);
    }

    private static void notBehindTheOldestMark() {
        RenameRows x = new RenameRows(1, 4, 8);
        x.move(0, 0);
        x.move(0, 0);
        x.branch();
        x.move(0, 0);
        x.branch();
        x.move(0, 0);
        Check.due("those before the mark", x.commit(8), 2);
        Check.due("no other", x.commit(8), 0);
        x.right(1);
        Check.due("a later mark is no help", x.commit(8), 0);
        x.branch();
        x.move(0, 0);
        x.right(0);
        Check.due("up to the next mark", x.commit(8), 2);
        x.right(1);
        Check.due("no mark", x.commit(8), 1);
        x.branch();
        x.move(0, 0);
        x.branch();
        x.move(0, 0);
        x.right(0);
        x.move(0, 0);
        x.branch();
        Check.due("the oldest is not the lowest", x.commit(8), 1);
    }

    private static void refuses() {
        RenameRows x = new RenameRows(2, 1, 2);
        x.move(0, 1);
        Check.noArgument("below 0", () -> x.commit(-1));
        Check.noArgument("far below 0", () -> x.commit(Integer.MIN_VALUE));
        Check.due("none left by that", x.count(3), 1);
        for (int bad : new int[] {-1, 2, 32, Integer.MIN_VALUE, Integer.MAX_VALUE}) {
            Check.noIndex("sure " + bad, () -> x.sure(bad));
        }
    }
}
