/** Promise 1 (a new object) and promise 17 (count). */
public final class NewObjectTest {
    public static void main(String[] args) {
        sizes();
        atTheBeginning();
        counts();
        wants();
        Check.close();
    }

    private static void sizesAre(int registers, int names, int places, int r, int p, int n) {
        RenameRows x = new RenameRows(registers, names, places);
        String made = "new (" + registers + ", " + names + ", " + places + ") ";
        Check.due(made + "R", x.count(0), r);
        Check.due(made + "P", x.count(1), p);
        Check.due(made + "N", x.count(2), n);
    }

    private static void sizes() {
        sizesAre(1, 1, 1, 1, 2, 1);
        sizesAre(4, 5, 6, 4, 9, 6);
        sizesAre(32, 64, 64, 32, 96, 64);
        sizesAre(33, 65, 65, 1, 2, 1);
        sizesAre(34, 66, 66, 2, 4, 2);
        sizesAre(0, 0, 0, 32, 96, 64);
        sizesAre(-1, -1, -1, 31, 94, 63);
        sizesAre(-31, -63, -63, 1, 2, 1);
        sizesAre(-32, -64, -64, 32, 96, 64);
        sizesAre(Integer.MAX_VALUE, Integer.MAX_VALUE, Integer.MAX_VALUE, 31, 94, 63);
        sizesAre(Integer.MIN_VALUE, Integer.MIN_VALUE, Integer.MIN_VALUE, 32, 96, 64);
        sizesAre(Integer.MIN_VALUE + 1, Integer.MIN_VALUE + 1, Integer.MIN_VALUE + 1, 1, 2, 1);
    }

    private static void atTheBeginning() {
        RenameRows x = new RenameRows(3, 4, 2);
        for (int k = 0; k < 3; k++) {
            Check.due("first name of " + k, x.name(k), k);
            Check.due("first sure name of " + k, x.sure(k), k);
            Check.due("first shares of " + k, x.shares(k), 1);
        }
        for (int k = 3; k < 7; k++) {
            Check.due("shares of the free " + k, x.shares(k), 0);
        }
        Check.queueIs("new", x, 3, 4, 5, 6);
        for (int what = 3; what <= 10; what++) {
            int want = what == 4 ? 4 : what == 8 ? RenameRows.NONE : 0;
            Check.due("new count(" + what + ")", x.count(what), want);
        }
        for (int port = 0; port < 8; port++) {
            Check.due("new selected(" + port + ")", x.selected(port), RenameRows.NONE);
        }
        Check.noState("a new ring holds no row", () -> x.row(0, 6));
        x.dispatch(0, 2, -1);
        Check.due("the first names are ready", x.select(1), 1);
    }

    private static void counts() {
        RenameRows x = new RenameRows(2, 6, 3);
        x.dispatch(0, 1, 0);
        x.move(0, 1);
        Check.due("rows", x.count(3), 2);
        Check.due("free names", x.count(4), 5);
        Check.due("oldest", x.count(8), 0);
        x.select(1);
        x.end(0);
        x.commit(1);
        Check.due("oldest after one is done", x.count(8), 1);
        Check.due("done", x.count(6), 1);
        x.branch();
        x.dispatch(-1, -1, -1);
        x.dispatch(-1, -1, -1);
        x.branch();
        Check.due("marks", x.count(5), 2);
        x.wrong(0);
        Check.due("marks after wrong", x.count(5), 0);
        Check.due("taken back", x.count(7), 2);
        Check.due("rows after wrong", x.count(3), 1);
        x.commit(5);
        Check.due("done, in all", x.count(6), 2);
        Check.due("no oldest", x.count(8), RenameRows.NONE);
        for (int what : new int[] {-1, 11, 12, Integer.MAX_VALUE, Integer.MIN_VALUE}) {
            Check.due("count(" + what + ")", x.count(what), RenameRows.NONE);
        }
        x.branch();
        x.dispatch(-1, -1, -1);
        x.wrong(0);
        Check.due("taken back, in all", x.count(7), 3);
    }

    private static void wants() {
        RenameRows x = new RenameRows(1, 1, 2);
        x.dispatch(0, 0, 0);
        Check.due("no name", x.dispatch(0, 0, 0), RenameRows.NONE);
        Check.due("want of a name", x.count(10), 1);
        Check.due("no want of a place", x.count(9), 0);
        x.dispatch(0, 0, -1);
        Check.due("full, no name needed", x.dispatch(0, 0, -1), RenameRows.NONE);
        Check.due("full, and no name", x.dispatch(0, 0, 0), RenameRows.NONE);
        Check.due("full, move", x.move(0, 0), RenameRows.NONE);
        Check.due("wants of a place", x.count(9), 3);
        Check.due("the ring is looked at first", x.count(10), 1);
        for (int k = 0; k < 9; k++) {
            x.branch();
        }
        Check.noIndex("a wrong register when full", () -> x.dispatch(0, 1, 0));
        Check.due("marks and exceptions are no want of a place", x.count(9), 3);
        Check.due("nor of a name", x.count(10), 1);
    }
}
