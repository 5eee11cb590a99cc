/** Promise 12 (name), promise 14 (shares) and promise 15 (queue). */
public final class NamesTest {
    private static final int NONE = RenameRows.NONE;

    public static void main(String[] args) {
        namesChange();
        sharesComeAndGo();
        queueGoesRound();
        refuses();
        Check.close();
    }

    private static void namesChange() {
        RenameRows x = new RenameRows(3, 3, 4);
        x.dispatch(0, 1, 1);
        Check.due("given", x.name(1), 3);
        Check.due("another stays", x.name(0), 0);
        x.move(1, 2);
        Check.due("moved", x.name(2), 3);
        x.branch();
        x.dispatch(0, 1, 2);
        Check.due("given behind a branch", x.name(2), 4);
        x.wrong(0);
        Check.due("taken back", x.name(2), 3);
        x.select(1);
        x.end(0);
        x.commit(2);
        Check.due("done", x.name(2), 3);
    }

    private static void sharesComeAndGo() {
        RenameRows x = new RenameRows(2, 2, 8);
        x.dispatch(0, 0, 0);
        Check.due("one", x.shares(2), 1);
        Check.due("the old one stays until it is done", x.shares(0), 1);
        x.branch();
        x.move(0, 1);
        x.move(0, 0);
        Check.due("three", x.shares(2), 3);
        x.wrong(0);
        Check.due("one again", x.shares(2), 1);
        Check.queueIs("not the last share", x, 3);
        x.select(1);
        x.end(0);
        x.commit(1);
        Check.due("given back", x.shares(0), 0);
        Check.due("the new one stays", x.shares(2), 1);
    }

    private static void queueGoesRound() {
        RenameRows x = new RenameRows(1, 2, 1);
        int[] given = {1, 2, 0, 1, 2, 0, 1};
        for (int name : given) {
            Check.due("the first of the queue", x.queue(0), name);
            x.dispatch(0, NONE, 0);
            Check.due("is given", x.name(0), name);
            x.select(1);
            x.end(0);
            x.commit(1);
            Check.due("two are free", x.count(4), 2);
        }
    }

    private static void refuses() {
        RenameRows x = new RenameRows(3, 2, 4);
        for (int bad : new int[] {-1, 3, 5, Integer.MIN_VALUE, Integer.MAX_VALUE}) {
            Check.noIndex("name " + bad, () -> x.name(bad));
        }
        Check.due("the last name", x.shares(4), 0);
        for (int bad : new int[] {-1, 5, 96, Integer.MIN_VALUE, Integer.MAX_VALUE}) {
            Check.noIndex("shares " + bad, () -> x.shares(bad));
        }
        Check.due("the last of the queue", x.queue(1), 4);
        for (int bad : new int[] {-1, 2, 5, Integer.MIN_VALUE, Integer.MAX_VALUE}) {
            Check.noArgument("queue " + bad, () -> x.queue(bad));
        }
        x.dispatch(0, 0, 0);
        x.dispatch(0, 0, 0);
        Check.noArgument("an empty queue", () -> x.queue(0));
    }
}
