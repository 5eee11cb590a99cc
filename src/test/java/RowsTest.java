/** Promise 2 (dispatch), promise 3 (move) and promise 16 (row). */
public final class RowsTest {
    private static final int NONE = RenameRows.NONE;

    public static void main(String[] args) {
        dispatchGivesNames();
        dispatchRefuses();
        placesGoRound();
        moveShares();
        moveRefuses();
        rowRefuses();
        Check.close();
    }

    private static void dispatchGivesNames() {
        RenameRows x = new RenameRows(4, 4, 5);
        Check.due("first place", x.dispatch(0, 1, 2), 0);
        Check.rowIs(x, 0, 0, 1, 4, 2, 2, 0, 0);
        Check.due("reads the names as they are now", x.dispatch(2, 2, 2), 1);
        Check.rowIs(x, 1, 4, 4, 5, 4, 2, 0, 0);
        Check.due("name given", x.name(2), 5);
        Check.due("not sure yet", x.sure(2), 2);
        Check.due("one share", x.shares(5), 1);
        Check.due("reads nothing, gives nothing", x.dispatch(NONE, NONE, NONE), 2);
        Check.rowIs(x, 2, NONE, NONE, NONE, NONE, NONE, 0, 0);
        Check.due("reads one", x.dispatch(NONE, 3, 0), 3);
        Check.rowIs(x, 3, NONE, 3, 6, 0, 0, 0, 0);
        Check.queueIs("one is left", x, 7);
        x.select(1);
        Check.due("row 1 must wait for row 0", x.select(1), 1);
        Check.due("so row 2 went", x.selected(0), 2);
        Check.due("a going row", x.row(0, 6), 1);
        x.end(0);
        Check.due("an ended row", x.row(0, 6), 2);
        x.port(1, 6);
        Check.due("a row's port", x.row(1, 5), 6);
    }

    private static void dispatchRefuses() {
        RenameRows x = new RenameRows(2, 1, 2);
        for (int bad : new int[] {-2, 2, 32, Integer.MIN_VALUE, Integer.MAX_VALUE}) {
            Check.noIndex("dispatch a " + bad, () -> x.dispatch(bad, 0, 0));
            Check.noIndex("dispatch b " + bad, () -> x.dispatch(0, bad, 0));
            Check.noIndex("dispatch to " + bad, () -> x.dispatch(0, 0, bad));
        }
        Check.due("nothing came by that", x.count(3), 0);
        Check.queueIs("nothing was given by that", x, 2);
        x.dispatch(0, 1, 0);
        Check.due("no name is free", x.dispatch(0, 1, 1), NONE);
        Check.due("none came", x.count(3), 1);
        Check.due("the name stays", x.name(1), 1);
        Check.due("no name is needed", x.dispatch(0, 1, NONE), 1);
        Check.due("full", x.dispatch(NONE, NONE, NONE), NONE);
        Check.noIndex("an exception goes before a full ring", () -> x.dispatch(2, 0, 0));
    }

    private static void placesGoRound() {
        RenameRows x = new RenameRows(2, 3, 3);
        for (int k = 0; k < 10; k++) {
            Check.due("place of move " + k, x.move(0, 0), k % 3);
            if (k > 0) {
                Check.due("one is done", x.commit(1), 1);
            }
        }
        x.branch();
        Check.due("behind the last", x.dispatch(0, 0, 1), 1);
        Check.due("behind that", x.dispatch(0, 0, 1), 2);
        x.wrong(0);
        Check.due("the place of what was taken back", x.dispatch(1, 1, 0), 1);
        Check.rowIs(x, 1, 1, 1, 4, 0, 0, 0, 0);
    }

    private static void moveShares() {
        RenameRows x = new RenameRows(3, 2, 6);
        x.dispatch(0, 0, 0);
        Check.due("move", x.move(0, 1), 1);
        Check.rowIs(x, 1, 3, NONE, 3, 1, 1, 0, 2);
        Check.due("the same name", x.name(1), 3);
        Check.due("one share more", x.shares(3), 2);
        Check.due("move on itself", x.move(1, 1), 2);
        Check.rowIs(x, 2, 3, NONE, 3, 3, 1, 0, 2);
        Check.due("and one more", x.shares(3), 3);
        Check.queueIs("moves need no name", x, 4);
        x.dispatch(1, NONE, 2);
        Check.due("a move does not make ready", x.select(1), 1);
        Check.due("the first row went", x.selected(0), 0);
        Check.due("nothing else can go", x.select(1), 0);
        Check.due("the shared name gets ready", x.end(0), 1);
        Check.due("all that ended are done", x.commit(9), 3);
        Check.due("two shares are left", x.shares(3), 2);
        Check.queueIs("0 and 1 came free", x, 0, 1);
    }

    private static void moveRefuses() {
        RenameRows x = new RenameRows(2, 1, 1);
        for (int bad : new int[] {-1, -2, 2, Integer.MIN_VALUE, Integer.MAX_VALUE}) {
            Check.noIndex("move a " + bad, () -> x.move(bad, 0));
            Check.noIndex("move to " + bad, () -> x.move(0, bad));
        }
        Check.due("nothing came by that", x.count(3), 0);
        Check.due("no share more", x.shares(0), 1);
        x.move(0, 1);
        Check.due("full", x.move(0, 1), NONE);
        Check.due("no share by that", x.shares(0), 2);
        Check.noIndex("an exception goes before a full ring", () -> x.move(0, NONE));
    }

    private static void rowRefuses() {
        RenameRows x = new RenameRows(2, 2, 3);
        x.dispatch(0, 0, 0);
        for (int bad : new int[] {-1, 3, 64, Integer.MIN_VALUE, Integer.MAX_VALUE}) {
            Check.noIndex("row " + bad, () -> x.row(bad, 0));
            Check.noIndex("row and what wrong " + bad, () -> x.row(bad, 7));
        }
        Check.noState("no row there", () -> x.row(1, 0));
        Check.noState("no row there, and what wrong", () -> x.row(2, -1));
        for (int bad : new int[] {-1, 7, Integer.MIN_VALUE, Integer.MAX_VALUE}) {
            Check.noArgument("what " + bad, () -> x.row(0, bad));
        }
        x.move(0, 1);
        x.select(1);
        x.end(0);
        x.commit(1);
        Check.noState("the row is done", () -> x.row(0, 0));
        Check.due("the next is there", x.row(1, 6), 2);
        x.branch();
        x.dispatch(NONE, NONE, NONE);
        x.dispatch(NONE, NONE, NONE);
        Check.due("round", x.row(0, 6), 0);
        x.wrong(0);
        Check.noState("taken back", () -> x.row(0, 0));
        Check.noState("taken back, too", () -> x.row(2, 0));
    }
}
