/** Promise 3 (move): a test for each sentence that names a boundary. */
public final class Promise03Test {
    private static final int NONE = RenameRows.NONE;
    private static final String PROMISE = "Promise 3";

    public static void main(String[] args) {
        readsTheNameThatItHas();
        oneShareMore();
        onItself();
        endedAtOnce();
        doesNotMakeReady();
        needsNoFreeName();
        itsPlace();
        noneWhenTheRingIsFull();
        noSuchRegister();
        noSuchRegisterGoesFirst();
        Check.close();
    }

    private static void readsTheNameThatItHas() {
        Check.about(PROMISE, "A row that reads the name that register a has");
        RenameRows x = new RenameRows(3, 2, 4);
        x.move(2, 0);
        Check.rowIs(x, 0, 2, NONE, 2, 0, 0, 0, 2);
        x.dispatch(NONE, NONE, 2);
        x.move(2, 1);
        Check.rowIs(x, 2, 3, NONE, 3, 1, 1, 0, 2);
        x.move(0, 2);
        Check.rowIs(x, 3, 2, NONE, 2, 3, 2, 0, 2);
    }

    private static void oneShareMore() {
        Check.about(PROMISE, "gives register to that one, too (one share more)");
        RenameRows x = new RenameRows(4, 1, 8);
        for (int to = 1; to < 4; to++) {
            x.move(0, to);
            Check.due("the same name", x.name(to), 0);
            Check.due("one share more", x.shares(0), to + 1);
            Check.due("its own name keeps its share", x.shares(to), 1);
            Check.due("register a keeps it", x.name(0), 0);
            Check.due("not sure yet", x.sure(to), to);
        }
        Check.due("done", x.commit(3), 3);
        Check.due("shares stay with the registers", x.shares(0), 4);
        Check.queueIs("the others are given back", x, 4, 1, 2, 3);
    }

    private static void onItself() {
        Check.about(PROMISE, "gives register to that one, too (a and to may be the same)");
        RenameRows x = new RenameRows(2, 1, 4);
        x.move(1, 1);
        Check.rowIs(x, 0, 1, NONE, 1, 1, 1, 0, 2);
        Check.due("two shares", x.shares(1), 2);
        x.branch();
        x.move(1, 1);
        Check.due("three", x.shares(1), 3);
        x.wrong(0);
        Check.due("two again", x.shares(1), 2);
        x.commit(1);
        Check.due("one again", x.shares(1), 1);
        Check.due("the name stays", x.name(1), 1);
        Check.queueIs("it was never free", x, 2);
    }

    private static void endedAtOnce() {
        Check.about(PROMISE, "it has ended at once");
        RenameRows x = new RenameRows(2, 1, 4);
        x.move(0, 1);
        Check.due("ended", x.row(0, 6), 2);
        Check.due("it does not go", x.select(8), 0);
        Check.noState("it does not end", () -> x.end(0));
        Check.noState("it takes no port", () -> x.port(0, 1));
        Check.due("it can be done", x.commit(1), 1);
        Check.due("sure", x.sure(1), 0);
        RenameRows y = new RenameRows(2, 2, 4);
        y.dispatch(NONE, NONE, 0);
        y.move(0, 1);
        Check.due("ended, though what it reads is not ready", y.row(1, 6), 2);
        Check.due("but done in its turn", y.commit(4), 0);
    }

    private static void doesNotMakeReady() {
        Check.about(PROMISE, "it has ended at once (and no name is ready by that)");
        RenameRows x = new RenameRows(2, 2, 4);
        x.dispatch(NONE, NONE, 0);
        x.move(0, 1);
        x.dispatch(1, NONE, NONE);
        Check.due("row 0 goes", x.select(1), 1);
        Check.due("what reads the shared name waits", x.select(1), 0);
        Check.due("until row 0 ends", x.end(0), 1);
        RenameRows y = new RenameRows(2, 2, 4);
        y.move(0, 1);
        y.dispatch(1, 0, NONE);
        Check.due("a ready name stays ready", y.select(1), 1);
    }

    private static void needsNoFreeName() {
        Check.about(PROMISE, "NONE, when the ring is full (and for nothing else: it needs no free name)");
        RenameRows x = Made.withoutFreeName();
        Check.due("no name is free", x.count(4), 0);
        Check.due("it comes", x.move(0, 1), 1);
        Check.due("no want", x.count(10), 0);
    }

    private static void itsPlace() {
        Check.about(PROMISE, "its place");
        RenameRows x = new RenameRows(1, 1, 3);
        Made.idle(x, 2);
        Check.due("the last", x.move(0, 0), 2);
        x.select(1);
        x.end(0);
        x.commit(1);
        Check.due("round", x.move(0, 0), 0);
        Check.due("it is there", x.row(0, 6), 2);
    }

    private static void noneWhenTheRingIsFull() {
        Check.about(PROMISE, "NONE, when the ring is full");
        for (int places : new int[] {1, 2, 63, 64}) {
            RenameRows x = new RenameRows(1, 1, places);
            for (int k = 0; k < places; k++) {
                Check.due("row " + k + " of " + places, x.move(0, 0), k);
            }
            Check.due("full", x.move(0, 0), NONE);
            Check.due("no share by that", x.shares(0), places + 1);
            x.commit(1);
            Check.due("the place that came free", x.move(0, 0), 0);
            Check.due("full again, round", x.move(0, 0), NONE);
        }
        Check.onlyAnswers("full", NONE, 1, 0, Made::full, x -> x.move(0, 1));
        Check.onlyAnswers("on itself", NONE, 1, 0, Made::full, x -> x.move(1, 1));
        Check.onlyAnswers("no name, either", NONE, 1, 0, Made::fullWithoutFreeName, x -> x.move(0, 1));
    }

    private static void noSuchRegister() {
        Check.about(PROMISE, "ArrayIndexOutOfBoundsException, when there is no such register");
        for (int bad : Check.outside(3)) {
            Check.refusedForIndex("a " + bad, Made::mixed, x -> x.move(bad, 0));
            Check.refusedForIndex("to " + bad, Made::mixed, x -> x.move(0, bad));
            Check.refusedForIndex("both " + bad, Made::mixed, x -> x.move(bad, bad));
        }
        for (int registers : new int[] {1, 31, 32}) {
            RenameRows x = new RenameRows(registers, 3, 3);
            Check.noIndex("a too great", () -> x.move(registers, 0));
            Check.noIndex("to too great", () -> x.move(0, registers));
            Check.due("the last register", x.move(registers - 1, registers - 1), 0);
        }
    }

    private static void noSuchRegisterGoesFirst() {
        Check.about(PROMISE, "ArrayIndexOutOfBoundsException .. no such register (a call that throws answers no NONE)");
        for (int bad : Check.outside(2)) {
            Check.refusedForIndex("a in a full ring", Made::full, x -> x.move(bad, 0));
            Check.refusedForIndex("to in a full ring", Made::full, x -> x.move(0, bad));
        }
    }
}
