/** Promise 14 (shares): a test for each sentence that names a boundary. */
public final class Promise14Test {
    private static final int NONE = RenameRows.NONE;
    private static final String PROMISE = "Promise 14";

    public static void main(String[] args) {
        aNamesShares();
        noneAndMany();
        noSuchName();
        Check.close();
    }

    private static void aNamesShares() {
        Check.about(PROMISE, "A name's shares");
        RenameRows x = new RenameRows(2, 2, 6);
        Check.due("a register's", x.shares(1), 1);
        Check.due("a free one's", x.shares(3), 0);
        x.dispatch(NONE, NONE, 1);
        Check.due("given", x.shares(2), 1);
        Check.due("what the register had is not given back yet", x.shares(1), 1);
        x.move(1, 0);
        Check.due("one more", x.shares(2), 2);
        x.branch();
        x.move(0, 0);
        Check.due("and one more", x.shares(2), 3);
        x.wrong(0);
        Check.due("taken back", x.shares(2), 2);
        x.select(1);
        x.end(0);
        Check.due("ended gives nothing back", x.shares(1), 1);
        x.commit(2);
        Check.due("done does", x.shares(1), 0);
        Check.due("here, too", x.shares(0), 0);
        Check.due("the registers' shares stay", x.shares(2), 2);
    }

    private static void noneAndMany() {
        Check.about(PROMISE, "A name's shares (from none to one more than there are places and registers)");
        RenameRows x = new RenameRows(1, 1, 64);
        for (int k = 0; k < 64; k++) {
            x.move(0, 0);
            Check.due("after move " + k, x.shares(0), k + 2);
        }
        x.move(0, 0);
        Check.due("a full ring gives no share", x.shares(0), 65);
        x.commit(64);
        Check.due("all but one were given back", x.shares(0), 1);
        x.dispatch(NONE, NONE, 0);
        x.select(1);
        x.end(0);
        x.commit(1);
        Check.due("and that one", x.shares(0), 0);
    }

    private static void noSuchName() {
        Check.about(PROMISE, "ArrayIndexOutOfBoundsException, when there is no such name");
        for (int bad : Check.outside(9)) {
            Check.refusedForIndex("name " + bad, Made::mixed, x -> x.shares(bad));
        }
        for (int[] size : new int[][] {{1, 1}, {1, 64}, {32, 1}, {32, 64}}) {
            RenameRows x = new RenameRows(size[0], size[1], 1);
            int names = size[0] + size[1];
            Check.due("the last one", x.shares(names - 1), 0);
            for (int bad : Check.outside(names)) {
                Check.noIndex("name " + bad + " of " + names, () -> x.shares(bad));
            }
        }
    }
}
