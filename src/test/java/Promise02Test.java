/** Promise 2 (dispatch): a test for each sentence that names a boundary. */
public final class Promise02Test {
    private static final int NONE = RenameRows.NONE;
    private static final String PROMISE = "Promise 2";

    public static void main(String[] args) {
        namesAsTheyAreNow();
        noneForNone();
        theFirstNameOfTheQueue();
        notReadyThen();
        itsPlace();
        noneWhenTheRingIsFull();
        noneWhenNoNameIsFree();
        aNameThatIsNotNeeded();
        fullAndNoNameIsFree();
        noSuchRegister();
        noSuchRegisterGoesFirst();
        Check.close();
    }

    private static void namesAsTheyAreNow() {
        Check.about(PROMISE, "reads the names of registers a and b as they are now");
        RenameRows x = new RenameRows(3, 4, 5);
        x.dispatch(0, 2, 0);
        Check.rowIs(x, 0, 0, 2, 3, 0, 0);
        x.dispatch(0, 0, 0);
        Check.rowIs(x, 1, 3, 3, 4, 3, 0);
        x.dispatch(1, 0, 1);
        Check.rowIs(x, 2, 1, 4, 5, 1, 1);
        x.move(2, 0);
        Check.rowIs(x, 0, 0, 2, 3, 0, 0);
        Check.rowIs(x, 1, 3, 3, 4, 3, 0);
        Check.rowIs(x, 2, 1, 4, 5, 1, 1);
        x.dispatch(0, 1, NONE);
        Check.rowIs(x, 4, 2, 5);
    }

    private static void noneForNone() {
        Check.about(PROMISE, "(NONE: none)");
        RenameRows x = new RenameRows(2, 3, 6);
        Check.due("no a", x.dispatch(NONE, 1, 0), 0);
        Check.rowIs(x, 0, NONE, 1, 2, 0, 0, 0, 0);
        Check.due("no b", x.dispatch(1, NONE, 0), 1);
        Check.rowIs(x, 1, 1, NONE, 3, 2, 0, 0, 0);
        Check.due("no to", x.dispatch(1, 0, NONE), 2);
        Check.rowIs(x, 2, 1, 3, NONE, NONE, NONE, 0, 0);
        Check.due("none at all", x.dispatch(NONE, NONE, NONE), 3);
        Check.rowIs(x, 3, NONE, NONE, NONE, NONE, NONE, 0, 0);
        Check.queueIs("only two gave a name", x, 4);
        Check.due("register 0", x.name(0), 3);
        Check.due("register 1", x.name(1), 1);
    }

    private static void theFirstNameOfTheQueue() {
        Check.about(PROMISE, "gives register to .. the first name of the queue");
        RenameRows x = new RenameRows(2, 2, 3);
        for (int k = 0; k < 9; k++) {
            int first = x.queue(0);
            int place = x.dispatch(0, 1, k % 2);
            Check.due("register has it", x.name(k % 2), first);
            Check.due("the row gave it", x.row(place, 2), first);
            Check.due("with one share", x.shares(first), 1);
            Check.due("one is left", x.count(4), 1);
            x.select(1);
            x.end(place);
            x.commit(1);
        }
        RenameRows y = new RenameRows(32, 64, 64);
        for (int k = 0; k < 64; k++) {
            y.dispatch(NONE, NONE, 31);
            Check.due("in their order", y.name(31), 32 + k);
        }
        Check.due("up to the last one", y.count(4), 0);
    }

    private static void notReadyThen() {
        Check.about(PROMISE, "which is not ready then");
        RenameRows x = new RenameRows(1, 1, 4);
        x.dispatch(NONE, NONE, 0);
        x.dispatch(0, NONE, NONE);
        Check.due("its row goes", x.select(1), 1);
        Check.due("a reader does not", x.select(1), 0);
        Check.due("until it has ended", x.end(0), 1);
        x.select(1);
        x.end(1);
        x.commit(2);
        Check.due("name 0 was ready before it was free", x.queue(0), 0);
        x.dispatch(NONE, NONE, 0);
        x.dispatch(NONE, 0, NONE);
        Check.due("it is given again", x.name(0), 0);
        Check.due("its row goes again", x.select(1), 1);
        Check.due("a reader does not again", x.select(1), 0);
    }

    private static void itsPlace() {
        Check.about(PROMISE, "its place");
        RenameRows x = new RenameRows(1, 1, 3);
        Made.idle(x, 1);
        Check.due("the second", x.dispatch(0, 0, 0), 1);
        Check.due("is where the row is", x.row(1, 4), 0);
        Check.due("the last", x.dispatch(0, 0, NONE), 2);
        x.select(1);
        x.end(0);
        x.commit(1);
        Check.due("round", x.dispatch(NONE, 0, NONE), 0);
        Check.due("a new row there", x.row(0, 1), 1);
    }

    private static void noneWhenTheRingIsFull() {
        Check.about(PROMISE, "NONE, when the ring is full");
        for (int places : new int[] {1, 2, 63, 64}) {
            RenameRows x = new RenameRows(1, 64, places);
            for (int k = 0; k < places; k++) {
                Check.due("row " + k + " of " + places, x.dispatch(NONE, NONE, 0), k);
            }
            Check.due("full", x.dispatch(NONE, NONE, NONE), NONE);
            x.select(1);
            x.end(0);
            Check.due("full until a row has left", x.dispatch(NONE, NONE, NONE), NONE);
            x.commit(1);
            Check.due("the place that came free", x.dispatch(NONE, NONE, NONE), 0);
            Check.due("full again, round", x.dispatch(NONE, NONE, NONE), NONE);
        }
        Check.onlyAnswers("with a name free", NONE, 1, 0, Made::full, x -> x.dispatch(0, 1, 0));
        Check.onlyAnswers("without a name", NONE, 1, 0, Made::full, x -> x.dispatch(NONE, NONE, NONE));
    }

    private static void noneWhenNoNameIsFree() {
        Check.about(PROMISE, "NONE, when .. no name is free that is needed");
        RenameRows x = new RenameRows(1, 3, 8);
        for (int k = 0; k < 3; k++) {
            Check.due("names are free", x.dispatch(0, 0, 0), k);
        }
        Check.due("none is free", x.dispatch(0, 0, 0), NONE);
        Check.due("a place is", x.count(3), 3);
        x.select(1);
        x.end(0);
        x.commit(1);
        Check.due("one came free", x.dispatch(0, 0, 0), 3);
        Check.due("it is that one", x.name(0), 0);
        Check.due("none is free again", x.dispatch(0, 0, 0), NONE);
        Check.onlyAnswers("no name", NONE, 0, 1, Made::withoutFreeName, y -> y.dispatch(0, 1, 1));
    }

    private static void aNameThatIsNotNeeded() {
        Check.about(PROMISE, "no name is free that is needed (none is, without a register)");
        RenameRows x = Made.withoutFreeName();
        Check.due("no register, no name", x.dispatch(0, 1, NONE), 1);
        Check.due("again", x.dispatch(NONE, NONE, NONE), 2);
        Check.due("no want", x.count(10), 0);
    }

    private static void fullAndNoNameIsFree() {
        Check.about(PROMISE, "NONE, when the ring is full, or no name is free (both: the ring is told first)");
        Check.onlyAnswers("both", NONE, 1, 0, Made::fullWithoutFreeName, x -> x.dispatch(0, 1, 0));
        Check.onlyAnswers("full alone", NONE, 1, 0, Made::fullWithoutFreeName, x -> x.dispatch(0, 1, NONE));
    }

    private static void noSuchRegister() {
        Check.about(PROMISE, "ArrayIndexOutOfBoundsException, when there is no such register");
        for (int bad : Check.outsideAndNotNone(3)) {
            Check.refusedForIndex("a " + bad, Made::mixed, x -> x.dispatch(bad, 0, 0));
            Check.refusedForIndex("b " + bad, Made::mixed, x -> x.dispatch(0, bad, 0));
            Check.refusedForIndex("to " + bad, Made::mixed, x -> x.dispatch(0, 0, bad));
            Check.refusedForIndex("a alone " + bad, Made::mixed, x -> x.dispatch(bad, NONE, NONE));
            Check.refusedForIndex("b alone " + bad, Made::mixed, x -> x.dispatch(NONE, bad, NONE));
            Check.refusedForIndex("to alone " + bad, Made::mixed, x -> x.dispatch(NONE, NONE, bad));
        }
        for (int registers : new int[] {1, 31, 32}) {
            RenameRows x = new RenameRows(registers, 3, 3);
            Check.noIndex("a too great", () -> x.dispatch(registers, 0, 0));
            Check.noIndex("b too great", () -> x.dispatch(0, registers, 0));
            Check.noIndex("to too great", () -> x.dispatch(0, 0, registers));
            Check.due("the last register", x.dispatch(registers - 1, registers - 1, registers - 1), 0);
        }
    }

    private static void noSuchRegisterGoesFirst() {
        Check.about(PROMISE, "ArrayIndexOutOfBoundsException .. no such register (a call that throws answers no NONE)");
        for (int bad : Check.outsideAndNotNone(2)) {
            Check.refusedForIndex("a in a full ring", Made::full, x -> x.dispatch(bad, 0, 0));
            Check.refusedForIndex("b in a full ring", Made::full, x -> x.dispatch(0, bad, 0));
            Check.refusedForIndex("to in a full ring", Made::full, x -> x.dispatch(0, 0, bad));
            Check.refusedForIndex("a without a free name", Made::withoutFreeName, x -> x.dispatch(bad, 0, 0));
            Check.refusedForIndex("b without a free name", Made::withoutFreeName, x -> x.dispatch(0, bad, 0));
            Check.refusedForIndex("to without a free name", Made::withoutFreeName, x -> x.dispatch(0, 0, bad));
        }
    }
}
