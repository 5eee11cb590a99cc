/** Promise 13 (sure): a test for each sentence that names a boundary. */
public final class Promise13Test {
    private static final int NONE = RenameRows.NONE;
    private static final String PROMISE = "Promise 13";

    public static void main(String[] args) {
        byTheRowsThatAreDone();
        byNoRow();
        notByRowsTakenBack();
        noSuchRegister();
        Check.close();
    }

    private static void byTheRowsThatAreDone() {
        Check.about(PROMISE, "The name that a register has by the rows that are done");
        RenameRows x = new RenameRows(2, 3, 4);
        x.dispatch(NONE, NONE, 0);
        x.dispatch(NONE, NONE, 0);
        x.move(0, 1);
        Made.idle(x, 1);
        for (int k = 0; k < 2; k++) {
            x.select(1);
            x.end(k);
        }
        Check.due("ended is not done", x.sure(0), 0);
        x.commit(1);
        Check.due("by the first", x.sure(0), 2);
        Check.due("not yet", x.sure(1), 1);
        x.commit(1);
        Check.due("by the second", x.sure(0), 3);
        x.commit(1);
        Check.due("by the move", x.sure(1), 3);
        x.select(1);
        x.end(3);
        x.commit(1);
        Check.due("a row without a register changes none", x.sure(0), 3);
        Check.due("nor here", x.sure(1), 3);
    }

    private static void byNoRow() {
        Check.about(PROMISE, "The name that a register has by the rows that are done (by none: the first one)");
        RenameRows x = new RenameRows(32, 1, 2);
        Check.due("the first register", x.sure(0), 0);
        Check.due("the last register", x.sure(31), 31);
        x.dispatch(NONE, NONE, 31);
        x.move(0, 1);
        Check.due("a row in the ring changes none", x.sure(31), 31);
        Check.due("nor does a move", x.sure(1), 1);
        Check.due("up to 0", x.commit(0), 0);
        Check.due("no row, no change", x.sure(31), 31);
    }

    private static void notByRowsTakenBack() {
        Check.about(PROMISE, "by the rows that are done (those taken back are not)");
        RenameRows x = new RenameRows(1, 3, 4);
        Made.oneByOne(x, 1);
        x.branch();
        x.dispatch(NONE, NONE, 0);
        x.select(1);
        x.end(1);
        x.wrong(0);
        Check.due("as before", x.sure(0), 1);
        Check.due("so is the name", x.name(0), 1);
        Made.oneByOne(x, 3);
        Check.due("then by the next ones", x.sure(0), x.name(0));
    }

    private static void noSuchRegister() {
        Check.about(PROMISE, "ArrayIndexOutOfBoundsException, when there is no such register");
        for (int bad : Check.outside(3)) {
            Check.refusedForIndex("register " + bad, Made::mixed, x -> x.sure(bad));
        }
        for (int registers : new int[] {1, 2, 31, 32}) {
            RenameRows x = new RenameRows(registers, 64, 64);
            Check.due("the last one", x.sure(registers - 1), registers - 1);
            for (int bad : Check.outside(registers)) {
                Check.noIndex("register " + bad + " of " + registers, () -> x.sure(bad));
            }
        }
    }
}
