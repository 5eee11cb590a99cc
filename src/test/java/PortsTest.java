/** Promise 4 (port), promise 5 (select), promise 6 (selected) and promise 7 (end). */
public final class PortsTest {
    private static final int NONE = RenameRows.NONE;

    public static void main(String[] args) {
        portOfARow();
        selectByAge();
        selectByAgeRoundTheRing();
        selectRefuses();
        selectedIsTheLatest();
        endWakes();
        endRefuses();
        Check.close();
    }

    private static void portOfARow() {
        RenameRows x = new RenameRows(2, 8, 4);
        x.dispatch(0, 0, 0);
        x.dispatch(0, 0, 1);
        x.move(0, 1);
        Check.due("0 at first", x.port(1, 7), 0);
        Check.due("the one before", x.port(1, 5), 7);
        Check.due("the same again", x.port(1, 5), 5);
        Check.due("back to the lowest", x.port(1, 0), 5);
        Check.due("and away", x.port(1, 5), 0);
        for (int bad : new int[] {-1, 4, 64, Integer.MIN_VALUE, Integer.MAX_VALUE}) {
            Check.noIndex("port of place " + bad, () -> x.port(bad, 0));
            Check.noIndex("place first " + bad, () -> x.port(bad, 8));
        }
        Check.noState("no row there", () -> x.port(3, 0));
        Check.noState("a row before a port", () -> x.port(3, 8));
        Check.noState("a move has ended", () -> x.port(2, 0));
        for (int bad : new int[] {-1, 8, Integer.MIN_VALUE, Integer.MAX_VALUE}) {
            Check.noArgument("port " + bad, () -> x.port(1, bad));
        }
        Check.due("it stays", x.row(1, 5), 5);
        x.select(1);
        Check.noState("it goes", () -> x.port(0, 1));
        x.end(0);
        Check.noState("it has ended", () -> x.port(0, -1));
        x.branch();
        x.dispatch(0, 0, NONE);
        x.port(3, 4);
        x.wrong(0);
        x.dispatch(0, 0, NONE);
        Check.due("0 at first in a used place", x.port(3, 1), 0);
    }

    private static void selectByAge() {
        RenameRows x = new RenameRows(4, 16, 8);
        x.dispatch(0, 0, 0);
        x.dispatch(0, 1, 1);
        x.dispatch(2, 2, 2);
        x.dispatch(3, NONE, 3);
        x.dispatch(NONE, NONE, NONE);
        x.port(3, 2);
        x.port(4, 7);
        Check.due("ports 0 .. 1", x.select(2), 1);
        Check.due("the oldest", x.selected(0), 0);
        Check.due("port 1 has no row", x.selected(1), NONE);
        Check.due("port 2 was not asked", x.selected(2), NONE);
        Check.due("row 1 waits for row 0, row 2 goes", x.select(3), 2);
        Check.due("port 0", x.selected(0), 2);
        Check.due("port 2", x.selected(2), 3);
        Check.due("port 7 only with eight", x.select(7), 0);
        Check.due("eight", x.select(8), 1);
        Check.due("port 7", x.selected(7), 4);
        Check.due("nothing is left", x.select(8), 0);
        Check.due("a going row stays one", x.row(0, 6), 1);
        Check.due("a waiting one, too", x.row(1, 6), 0);
        RenameRows y = new RenameRows(2, 4, 4);
        y.dispatch(NONE, NONE, 0);
        y.dispatch(0, 1, NONE);
        y.dispatch(1, 0, NONE);
        y.select(1);
        Check.due("neither first nor second may be missing", y.select(1), 0);
    }

    private static void selectByAgeRoundTheRing() {
        RenameRows x = new RenameRows(1, 8, 4);
        for (int k = 0; k < 3; k++) {
            x.move(0, 0);
        }
        x.commit(3);
        x.dispatch(NONE, NONE, NONE);
        x.dispatch(NONE, NONE, NONE);
        x.dispatch(NONE, NONE, NONE);
        int[] byAge = {3, 0, 1};
        for (int place : byAge) {
            Check.due("one goes", x.select(1), 1);
            Check.due("by age, not by place", x.selected(0), place);
        }
    }

    private static void selectRefuses() {
        RenameRows x = new RenameRows(1, 1, 2);
        x.dispatch(0, 0, NONE);
        x.select(1);
        for (int bad : new int[] {0, -1, 9, Integer.MIN_VALUE, Integer.MAX_VALUE}) {
            Check.noArgument("select " + bad, () -> x.select(bad));
        }
        Check.due("that was no select", x.selected(0), 0);
        for (int bad : new int[] {-1, 8, Integer.MIN_VALUE, Integer.MAX_VALUE}) {
            Check.noIndex("selected " + bad, () -> x.selected(bad));
        }
    }

    private static void selectedIsTheLatest() {
        RenameRows x = new RenameRows(1, 4, 4);
        x.branch();
        x.dispatch(0, 0, NONE);
        x.dispatch(0, 0, NONE);
        x.port(1, 3);
        Check.due("two", x.select(8), 2);
        x.end(0);
        x.wrong(0);
        Check.due("what went is not forgotten when it leaves", x.selected(3), 1);
        Check.due("nor here", x.selected(0), 0);
        x.select(1);
        Check.due("nothing in the latest", x.selected(0), NONE);
        Check.due("nor in ports that it did not ask", x.selected(3), NONE);
    }

    private static void endWakes() {
        RenameRows x = new RenameRows(4, 16, 10);
        x.dispatch(NONE, NONE, 0);
        x.dispatch(NONE, NONE, 1);
        x.dispatch(0, 0, NONE);
        x.dispatch(0, 1, NONE);
        x.dispatch(2, 0, NONE);
        x.dispatch(2, 3, NONE);
        x.dispatch(1, NONE, NONE);
        x.move(0, 3);
        x.dispatch(NONE, 3, 3);
        x.select(1);
        x.select(1);
        Check.due("rows 2, 4 and 8 have all", x.end(0), 3);
        Check.due("rows 3 and 6 have all", x.end(1), 2);
        Check.due("row 2 goes", x.select(1), 1);
        Check.due("it gave nothing", x.end(2), 0);
        Check.due("ended", x.row(2, 6), 2);
        RenameRows y = new RenameRows(2, 4, 4);
        y.dispatch(NONE, NONE, 0);
        y.dispatch(NONE, NONE, 0);
        y.dispatch(0, NONE, NONE);
        y.select(1);
        y.select(1);
        Check.due("an older name of the register wakes nobody", y.end(0), 0);
        Check.due("so it waits", y.select(1), 0);
        Check.due("its own does", y.end(1), 1);
    }

    private static void endRefuses() {
        RenameRows x = new RenameRows(1, 4, 3);
        x.dispatch(0, 0, 0);
        x.move(0, 0);
        for (int bad : new int[] {-1, 3, 64, Integer.MIN_VALUE, Integer.MAX_VALUE}) {
            Check.noIndex("end " + bad, () -> x.end(bad));
        }
        Check.noState("it waits", () -> x.end(0));
        Check.noState("it has ended at once", () -> x.end(1));
        Check.noState("no row there", () -> x.end(2));
        x.select(1);
        Check.due("it goes", x.end(0), 0);
        Check.noState("it has ended", () -> x.end(0));
        x.branch();
        x.dispatch(0, 0, NONE);
        x.select(1);
        x.wrong(0);
        Check.noState("it was taken back", () -> x.end(2));
        x.dispatch(0, 0, NONE);
        Check.noState("another row is there, and it waits", () -> x.end(2));
    }
}
