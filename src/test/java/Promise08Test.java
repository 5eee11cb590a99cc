/** Promise 8 (commit): a test for each sentence that names a boundary. */
public final class Promise08Test {
    private static final int NONE = RenameRows.NONE;
    private static final String PROMISE = "Promise 8";

    public static void main(String[] args) {
        upToN();
        asFarAsTheyHaveEnded();
        leaveTheRing();
        roundTheRing();
        namesGivenBack();
        namesGivenBackWithoutARegister();
        howMany();
        notBehindTheOldestMark();
        theOldestMarkIsNotTheLowest();
        aMarkAtTheVeryFront();
        aMarkBehindAll();
        nBelowZero();
        Check.close();
    }

    private static void upToN() {
        Check.about(PROMISE, "Up to n of the oldest rows");
        for (int n = 0; n <= 6; n++) {
            RenameRows x = new RenameRows(1, 1, 5);
            Made.moves(x, 5);
            Check.due("n is " + n, x.commit(n), Math.min(n, 5));
            Check.due("the others stay, n is " + n, x.count(3), 5 - Math.min(n, 5));
        }
        for (int n : new int[] {64, 65, Integer.MAX_VALUE - 1, Integer.MAX_VALUE}) {
            RenameRows x = new RenameRows(1, 1, 64);
            Made.moves(x, 64);
            Check.due("all 64, n is " + n, x.commit(n), 64);
        }
    }

    private static void asFarAsTheyHaveEnded() {
        Check.about(PROMISE, "as far as they have ended one behind the other");
        RenameRows x = new RenameRows(1, 1, 4);
        Made.idle(x, 1);
        Made.moves(x, 1);
        Made.idle(x, 1);
        Made.moves(x, 1);
        Check.due("the oldest is waiting", x.commit(4), 0);
        x.select(1);
        Check.due("the oldest is going", x.commit(4), 0);
        x.end(0);
        Check.due("up to the one that is waiting", x.commit(4), 2);
        x.select(1);
        Check.due("the oldest is going now", x.commit(4), 0);
        x.end(2);
        Check.due("the rest", x.commit(4), 2);
    }

    private static void leaveTheRing() {
        Check.about(PROMISE, "are DONE and leave the ring");
        RenameRows x = new RenameRows(1, 1, 3);
        Made.moves(x, 3);
        x.commit(2);
        Check.due("two are done", x.count(6), 2);
        Check.noState("place 0", () -> x.row(0, 6));
        Check.noState("place 1", () -> x.row(1, 6));
        Check.due("place 2 has its row", x.row(2, 6), 2);
        Check.due("it is the oldest", x.count(8), 2);
        Check.due("one row", x.count(3), 1);
        x.commit(1);
        Check.due("no row", x.count(3), 0);
        Check.due("no oldest", x.count(8), NONE);
    }

    private static void roundTheRing() {
        Check.about(PROMISE, "the oldest rows (round the end of the ring)");
        RenameRows x = new RenameRows(1, 1, 3);
        Made.moves(x, 2);
        x.commit(2);
        Made.moves(x, 1);
        Made.moves(x, 1);
        Made.idle(x, 1);
        Check.due("places 2 and 0", x.commit(3), 2);
        Check.due("place 1 stays", x.count(8), 1);
        Check.due("four are done", x.count(6), 4);
    }

    private static void namesGivenBack() {
        Check.about(PROMISE, "the names that their registers had before are given back");
        RenameRows x = new RenameRows(3, 3, 5);
        x.dispatch(NONE, NONE, 2);
        x.dispatch(NONE, NONE, 0);
        x.dispatch(NONE, NONE, 2);
        for (int k = 0; k < 3; k++) {
            x.select(1);
            x.end(k);
        }
        Check.queueIs("none before", x);
        x.commit(1);
        Check.queueIs("2 of the first row", x, 2);
        Check.due("the name it gave stays", x.shares(3), 1);
        x.commit(2);
        Check.queueIs("0, then 3", x, 2, 0, 3);
        Check.due("without shares", x.shares(3), 0);
        RenameRows y = new RenameRows(2, 1, 4);
        y.move(0, 1);
        y.move(1, 1);
        y.move(1, 0);
        Check.due("four shares", y.shares(0), 4);
        Check.due("all three", y.commit(3), 3);
        Check.due("two are the registers' own", y.shares(0), 2);
        Check.queueIs("1 came free once", y, 2, 1);
    }

    private static void namesGivenBackWithoutARegister() {
        Check.about(PROMISE, "the names that their registers had before (a row without a register gives none back)");
        RenameRows x = new RenameRows(1, 1, 2);
        Made.idle(x, 1);
        x.select(1);
        x.end(0);
        Check.due("done", x.commit(1), 1);
        Check.queueIs("as it was", x, 1);
        Check.due("the register's name", x.shares(0), 1);
        Check.due("sure", x.sure(0), 0);
    }

    private static void howMany() {
        Check.about(PROMISE, "given back: how many");
        Check.due("of an empty ring", new RenameRows(1, 1, 1).commit(5), 0);
        RenameRows x = new RenameRows(1, 1, 4);
        Made.moves(x, 4);
        Check.due("up to 0", x.commit(0), 0);
        Check.due("up to 3", x.commit(3), 3);
        Check.due("up to 3 again", x.commit(3), 1);
        Check.due("an empty ring again", x.commit(3), 0);
    }

    private static void notBehindTheOldestMark() {
        Check.about(PROMISE, "But rows behind the oldest mark are not");
        RenameRows x = new RenameRows(1, 1, 6);
        Made.moves(x, 2);
        x.branch();
        Made.moves(x, 1);
        x.branch();
        Made.moves(x, 2);
        Check.due("before mark 0", x.commit(6), 2);
        Check.due("no more", x.commit(Integer.MAX_VALUE), 0);
        x.right(0);
        Check.due("before mark 1", x.commit(6), 1);
        Check.due("no more again", x.commit(6), 0);
        Made.moves(x, 1);
        x.right(1);
        Check.due("without a mark all", x.commit(6), 3);
        x.branch();
        Made.moves(x, 1);
        x.wrong(0);
        Made.moves(x, 1);
        Check.due("a mark that was wrong is none", x.commit(6), 1);
    }

    private static void theOldestMarkIsNotTheLowest() {
        Check.about(PROMISE, "the oldest mark (it need not be the lowest)");
        RenameRows x = new RenameRows(1, 1, 8);
        x.branch();
        Made.moves(x, 1);
        x.branch();
        Made.moves(x, 1);
        x.right(0);
        Made.moves(x, 1);
        Check.due("mark 0 came again", x.branch(), 0);
        Made.moves(x, 1);
        Check.due("mark 1 is the oldest", x.commit(8), 1);
        x.right(1);
        Check.due("now it is mark 0", x.commit(8), 2);
        x.right(0);
        Check.due("now there is none", x.commit(8), 1);
    }

    private static void aMarkAtTheVeryFront() {
        Check.about(PROMISE, "But rows behind the oldest mark are not (a mark before all rows)");
        RenameRows x = new RenameRows(1, 1, 3);
        x.branch();
        Made.moves(x, 3);
        Check.due("none", x.commit(3), 0);
        x.right(0);
        Check.due("all", x.commit(3), 3);
        x.branch();
        Made.moves(x, 3);
        Check.due("none, when others were done before", x.commit(3), 0);
    }

    private static void aMarkBehindAll() {
        Check.about(PROMISE, "But rows behind the oldest mark are not (a mark behind all rows)");
        RenameRows x = new RenameRows(1, 1, 3);
        Made.moves(x, 3);
        x.branch();
        Check.due("all are before it", x.commit(3), 3);
        Check.due("nothing is left", x.commit(3), 0);
        Made.moves(x, 1);
        Check.due("what comes is behind it", x.commit(3), 0);
    }

    private static void nBelowZero() {
        Check.about(PROMISE, "IllegalArgumentException, when n is below 0");
        for (int bad : new int[] {-1, -2, -64, Integer.MIN_VALUE, Integer.MIN_VALUE + 1}) {
            Check.refusedForArgument("n " + bad, Made::mixed, x -> x.commit(bad));
            Check.noArgument("an empty ring, n " + bad, () -> new RenameRows(1, 1, 1).commit(bad));
        }
        Check.onlyAnswers("0 is not below 0", 0, 0, 0, Made::mixed, x -> x.commit(0));
    }
}
