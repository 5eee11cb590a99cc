import java.util.Arrays;

/** The sentences of "What it is" and "Terms" that name a boundary, each with a test of its own. */
public final class TermsTest {
    private static final int NONE = RenameRows.NONE;
    private static final String TERMS = "Terms";

    public static void main(String[] args) {
        atMost512Calls();
        noCallThrowsByItself();
        eachRegisterHasAName();
        aNameWithoutSharesIsFree();
        atTheBeginning();
        rowsComeBehindTheLastOneAndRound();
        upToTwoNamesMayGiveKnows();
        waitingThenGoingThenEnded();
        givingBackTheLastShare();
        marksZeroToSeven();
        sinceTheBeginning();
        ofSeveralExceptionsTheFirst();
        aNumberThatIsNone();
        noneIsMinusOne();
        Check.close();
    }

    private static void atMost512Calls() {
        Check.about("What it is", "used for at most 512 calls after it has been made");
        RenameRows x = new RenameRows(1, 2, 3);
        for (int k = 0; k < 102; k++) {
            int place = k % 3;
            Check.due("dispatch of round " + k, x.dispatch(0, NONE, 0), place);
            Check.due("select of round " + k, x.select(1), 1);
            Check.due("end of round " + k, x.end(place), 0);
            Check.due("commit of round " + k, x.commit(1), 1);
            Check.due("name of round " + k, x.name(0), (k + 1) % 3);
        }
        Check.due("call 511", x.count(6), 102);
        Check.due("call 512", x.sure(0), 102 % 3);
        RenameRows y = new RenameRows(1, 1, 1);
        y.move(0, 0);
        for (int k = 0; k < 510; k++) {
            Check.due("a full ring", y.move(0, 0), NONE);
        }
        Check.due("510 wants of a place", y.count(9), 510);
    }

    /** What calls after the 512th answer is free, but the machine must not throw in them either. */
    private static void noCallThrowsByItself() {
        Check.about("LANGUAGE.md 7", "No call may ever throw by itself");
        RenameRows x = new RenameRows(3, 4, 5);
        boolean ended = true;
        for (int k = 0; k < 4000; k++) {
            try {
                Runs.step(x, k);
            } catch (RuntimeException e) {
                ended = false;
            }
        }
        Check.holds("4,000 turns", ended);
    }

    private static void eachRegisterHasAName() {
        Check.about(TERMS, "Each register has a name at every moment");
        RenameRows x = new RenameRows(3, 4, 5);
        for (int k = 0; k < 60; k++) {
            Runs.step(x, k);
            for (int register = 0; register < 3; register++) {
                int name = x.name(register);
                Check.holds("turn " + k + ": a name that there is", name >= 0 && name < 7);
                Check.holds("turn " + k + ": and it has shares", name >= 0 && name < 7 && x.shares(name) > 0);
            }
        }
    }

    private static void aNameWithoutSharesIsFree() {
        Check.about(TERMS, "A name without shares is FREE; free ones wait in a QUEUE");
        for (int turns = 0; turns < 120; turns++) {
            RenameRows x = new RenameRows(3, 4, 5);
            for (int k = 0; k < turns; k++) {
                Runs.step(x, k);
            }
            boolean[] waits = new boolean[7];
            for (int k = 0; k < x.count(4); k++) {
                Check.holds("turn " + turns + ": once in the queue", !waits[x.queue(k)]);
                waits[x.queue(k)] = true;
            }
            for (int name = 0; name < 7; name++) {
                Check.holds("turn " + turns + ": name " + name + " waits if it has no shares",
                        waits[name] == (x.shares(name) == 0));
            }
        }
    }

    private static void atTheBeginning() {
        Check.about(TERMS, "At the beginning register k has the name k, with one share, and it is READY; "
                + "the others are free, in their order");
        for (int[] size : new int[][] {{1, 1}, {1, 64}, {2, 3}, {32, 1}, {32, 64}}) {
            RenameRows x = new RenameRows(size[0], size[1], 64);
            for (int k = 0; k < size[0]; k++) {
                Check.due("name of " + k, x.name(k), k);
                Check.due("sure name of " + k, x.sure(k), k);
                Check.due("shares of " + k, x.shares(k), 1);
            }
            for (int k = 0; k < size[1]; k++) {
                Check.due("the others, in their order", x.queue(k), size[0] + k);
                Check.due("without shares", x.shares(size[0] + k), 0);
            }
            Check.due("all others are free", x.count(4), size[1]);
        }
        RenameRows y = new RenameRows(32, 1, 32);
        for (int k = 0; k < 32; k++) {
            y.dispatch(k, 31 - k, NONE);
            Check.due("the name of " + k + " is ready", y.select(1), 1);
            Check.due("so its reader goes", y.selected(0), k);
        }
    }

    private static void rowsComeBehindTheLastOneAndRound() {
        Check.about(TERMS, "Rows come behind the last one, place by place and round");
        for (int places : new int[] {1, 2, 3, 64}) {
            RenameRows x = new RenameRows(1, 1, places);
            for (int k = 0; k < 2 * places + 1; k++) {
                Check.due("one at a time, row " + k + " of " + places, x.move(0, 0), k % places);
                x.commit(1);
            }
        }
        RenameRows y = new RenameRows(1, 1, 3);
        Made.moves(y, 3);
        y.commit(2);
        Check.due("behind the last place comes place 0", y.move(0, 0), 0);
        Check.due("then place 1", y.dispatch(NONE, NONE, NONE), 1);
        Check.due("place 2 still has its row", y.dispatch(NONE, NONE, NONE), NONE);
        RenameRows z = new RenameRows(1, 1, 4);
        Made.moves(z, 3);
        z.commit(3);
        z.branch();
        Made.idle(z, 3);
        z.wrong(0);
        Check.due("what was taken back round the end leaves its places", z.move(0, 0), 3);
        Check.due("and round again", z.move(0, 0), 0);
    }

    private static void upToTwoNamesMayGiveKnows() {
        Check.about(TERMS, "it reads up to two names, may give a register a name; it knows the name that this register had");
        RenameRows x = new RenameRows(3, 5, 8);
        x.dispatch(NONE, NONE, NONE);
        x.dispatch(0, NONE, NONE);
        x.dispatch(1, 2, 2);
        x.dispatch(1, 2, 2);
        x.move(2, 0);
        Check.rowIs(x, 0, NONE, NONE, NONE, NONE, NONE, 0, 0);
        Check.rowIs(x, 1, 0, NONE, NONE, NONE, NONE, 0, 0);
        Check.rowIs(x, 2, 1, 2, 3, 2, 2, 0, 0);
        Check.rowIs(x, 3, 1, 3, 4, 3, 2, 0, 0);
        Check.rowIs(x, 4, 4, NONE, 4, 0, 0, 0, 2);
    }

    private static void waitingThenGoingThenEnded() {
        Check.about(TERMS, "they are WAITING, then GOING, then ENDED");
        RenameRows x = new RenameRows(1, 2, 2);
        x.dispatch(0, 0, 0);
        Check.due("waiting", x.row(0, 6), 0);
        Check.noState("waiting is not ended at once", () -> x.end(0));
        x.select(1);
        Check.due("going", x.row(0, 6), 1);
        Check.due("going does not go again", x.select(8), 0);
        Check.due("going is not done", x.commit(1), 0);
        x.end(0);
        Check.due("ended", x.row(0, 6), 2);
        Check.due("ended does not go again", x.select(8), 0);
        Check.noState("nor does it end again", () -> x.end(0));
    }

    private static void givingBackTheLastShare() {
        Check.about(TERMS, "when it was the last one, the name is free, behind all in the queue");
        RenameRows x = new RenameRows(2, 3, 4);
        x.move(0, 1);
        Check.due("no last one yet", x.shares(0), 2);
        x.commit(1);
        Check.queueIs("the last share of 1", x, 2, 3, 4, 1);
        x.dispatch(NONE, NONE, 0);
        x.select(1);
        x.end(1);
        x.commit(1);
        Check.due("a share of 0 is left", x.shares(0), 1);
        Check.queueIs("so it is not free", x, 3, 4, 1);
        x.dispatch(NONE, NONE, 1);
        x.select(1);
        x.end(2);
        x.commit(1);
        Check.queueIs("now it is, behind all", x, 4, 1, 0);
        RenameRows y = Made.fullWithoutFreeName();
        y.select(1);
        y.end(0);
        y.commit(1);
        Check.queueIs("into an empty queue", y, 0);
        RenameRows z = new RenameRows(1, 3, 3);
        Made.oneByOne(z, 7);
        Check.queueIs("round the end of the names", z, 0, 1, 2);
    }

    private static void marksZeroToSeven() {
        Check.about(TERMS, "MARKS 0 .. 7 of branches");
        RenameRows x = new RenameRows(1, 1, 1);
        for (int mark = 0; mark <= 7; mark++) {
            Check.due("a mark", x.branch(), mark);
        }
        Check.due("no eighth", x.branch(), NONE);
        Check.due("the last one is a mark", x.right(7), 7);
        Check.due("and the first", x.wrong(0), 0);
        Check.noIndex("8 is none", () -> x.right(8));
        Check.noIndex("-1 is none", () -> x.wrong(-1));
    }

    private static void sinceTheBeginning() {
        Check.about(TERMS, "each knows how many rows came before it, since the beginning");
        RenameRows x = new RenameRows(1, 1, 4);
        Made.moves(x, 4);
        x.commit(3);
        x.branch();
        Made.idle(x, 2);
        Check.due("rows before it leave, it stays where it is", x.commit(4), 1);
        Check.due("two rows came behind it", x.wrong(0), 2);
        RenameRows y = new RenameRows(1, 1, 4);
        for (int k = 0; k < 70; k++) {
            y.move(0, 0);
            y.commit(1);
        }
        y.move(0, 0);
        y.branch();
        y.move(0, 0);
        Check.due("71 rows before it, one in the ring", y.commit(4), 1);
        Check.due("one behind it", y.wrong(0), 1);
        y.branch();
        y.move(0, 0);
        y.branch();
        y.move(0, 0);
        y.wrong(1);
        y.move(0, 0);
        Check.due("rows that were taken back are not behind the mark before them", y.wrong(0), 2);
    }

    private static void ofSeveralExceptionsTheFirst() {
        Check.about(TERMS, "Of several exceptions the first one told is thrown");
        RenameRows x = Made.mixed();
        for (int bad : Check.outside(5)) {
            Check.noIndex("port: no place, no port", () -> x.port(bad, 8));
            Check.noIndex("row: no place, no what", () -> x.row(bad, 7));
            Check.noIndex("end: no place", () -> x.end(bad));
        }
        for (int place : new int[] {0, 4}) {
            Check.noState("port: no row, no port", () -> x.port(place, -1));
            Check.noState("row: no row, no what", () -> x.row(place, -1));
        }
        for (int place : new int[] {1, 2}) {
            Check.noState("port: not waiting, no port", () -> x.port(place, 8));
        }
        for (int bad : Check.outside(8)) {
            Check.noIndex("right: no mark", () -> x.right(bad));
            Check.noIndex("wrong: no mark", () -> x.wrong(bad));
        }
    }

    private static void aNumberThatIsNone() {
        Check.about(TERMS, "ArrayIndexOutOfBoundsException is always for a number that is none, below 0 or too great");
        RenameRows x = new RenameRows(2, 1, 3);
        for (int bad : Check.outside(2)) {
            Check.noIndex("name " + bad, () -> x.name(bad));
            Check.noIndex("sure " + bad, () -> x.sure(bad));
            Check.noIndex("move a " + bad, () -> x.move(bad, 0));
            Check.noIndex("move to " + bad, () -> x.move(0, bad));
        }
        for (int bad : Check.outside(3)) {
            Check.noIndex("shares " + bad, () -> x.shares(bad));
            Check.noIndex("port " + bad, () -> x.port(bad, 0));
            Check.noIndex("end " + bad, () -> x.end(bad));
            Check.noIndex("row " + bad, () -> x.row(bad, 0));
        }
        for (int bad : Check.outside(8)) {
            Check.noIndex("selected " + bad, () -> x.selected(bad));
            Check.noIndex("right " + bad, () -> x.right(bad));
            Check.noIndex("wrong " + bad, () -> x.wrong(bad));
        }
    }

    private static void noneIsMinusOne() {
        Check.about(TERMS, "NONE = -1");
        Check.due("NONE", RenameRows.NONE, -1);
        int[] answers = {new RenameRows(1, 1, 1).count(8), new RenameRows(1, 1, 1).selected(0),
            new RenameRows(1, 1, 1).count(99), Made.full().move(0, 0)};
        Check.holds("nothing there is -1", Arrays.equals(answers, new int[] {-1, -1, -1, -1}));
    }
}
