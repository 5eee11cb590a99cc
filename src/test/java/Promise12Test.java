/** Promise 12 (name): a test for each sentence that names a boundary. */
public final class Promise12Test {
    private static final int NONE = RenameRows.NONE;
    private static final String PROMISE = "Promise 12";

    public static void main(String[] args) {
        aRegistersName();
        aCallThatCameToNothing();
        noSuchRegister();
        Check.close();
    }

    private static void aRegistersName() {
        Check.about(PROMISE, "A register's name");
        RenameRows x = new RenameRows(32, 2, 4);
        Check.due("the first register", x.name(0), 0);
        Check.due("the last register", x.name(31), 31);
        x.dispatch(NONE, NONE, 31);
        Check.due("at once, before the row has ended", x.name(31), 32);
        x.move(31, 0);
        Check.due("by a move", x.name(0), 32);
        Check.due("no other", x.name(1), 1);
        x.branch();
        x.dispatch(NONE, NONE, 0);
        Check.due("the last name", x.name(0), 33);
        x.wrong(0);
        Check.due("taken back", x.name(0), 32);
        x.select(1);
        x.end(0);
        x.commit(2);
        Check.due("done changes no name", x.name(0), 32);
        Check.due("nor here", x.name(31), 32);
    }

    private static void aCallThatCameToNothing() {
        Check.about(PROMISE, "A register's name (a call that answers NONE or throws gives none)");
        RenameRows x = Made.fullWithoutFreeName();
        x.dispatch(NONE, NONE, 1);
        x.move(0, 1);
        Check.noIndex("no such register", () -> x.dispatch(2, 0, 1));
        Check.due("it stays", x.name(1), 1);
        RenameRows y = Made.withoutFreeName();
        y.dispatch(NONE, NONE, 1);
        Check.due("here, too", y.name(1), 1);
    }

    private static void noSuchRegister() {
        Check.about(PROMISE, "ArrayIndexOutOfBoundsException, when there is no such register");
        for (int bad : Check.outside(3)) {
            Check.refusedForIndex("register " + bad, Made::mixed, x -> x.name(bad));
        }
        for (int registers : new int[] {1, 2, 31, 32}) {
            RenameRows x = new RenameRows(registers, 64, 64);
            Check.due("the last one", x.name(registers - 1), registers - 1);
            for (int bad : Check.outside(registers)) {
                Check.noIndex("register " + bad + " of " + registers, () -> x.name(bad));
            }
        }
    }
}
