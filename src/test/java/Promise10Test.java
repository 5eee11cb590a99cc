/** Promise 10 (right): a test for each sentence that names a boundary. */
public final class Promise10Test {
    private static final String PROMISE = "Promise 10";

    public static void main(String[] args) {
        theMarkIsFree();
        nothingElseChanges();
        howManyMarksThereAre();
        noSuchMark();
        whenItIsFree();
        Check.close();
    }

    private static void theMarkIsFree() {
        Check.about(PROMISE, "the mark is free");
        for (int mark = 0; mark <= 7; mark++) {
            RenameRows x = new RenameRows(1, 1, 1);
            for (int k = 0; k <= 7; k++) {
                x.branch();
            }
            int freed = mark;
            x.right(freed);
            Check.noState("it is free", () -> x.right(freed));
            Check.noState("for wrong, too", () -> x.wrong(freed));
            Check.due("and is taken again", x.branch(), freed);
            Check.due("right again", x.right(freed), 7);
        }
    }

    private static void nothingElseChanges() {
        Check.about(PROMISE, "A mark's branch was right (rows and other marks stay)");
        RenameRows x = new RenameRows(1, 1, 4);
        x.branch();
        Made.idle(x, 1);
        x.branch();
        Made.idle(x, 1);
        x.branch();
        Made.idle(x, 1);
        Check.due("the one in the middle", x.right(1), 2);
        Check.due("all rows stay", x.count(3), 3);
        Check.due("none was taken back", x.count(7), 0);
        Check.due("mark 2 is where it was", x.wrong(2), 1);
        Check.due("mark 0 is where it was", x.wrong(0), 2);
    }

    private static void howManyMarksThereAre() {
        Check.about(PROMISE, "how many marks there are");
        RenameRows x = new RenameRows(1, 1, 1);
        for (int k = 0; k <= 7; k++) {
            x.branch();
        }
        int left = 7;
        for (int mark : new int[] {3, 0, 7, 1, 6, 2, 5, 4}) {
            Check.due("after " + mark, x.right(mark), left);
            Check.due("and they are counted so", x.count(5), left);
            left--;
        }
        x.branch();
        Check.due("the only one", x.right(0), 0);
    }

    private static void noSuchMark() {
        Check.about(PROMISE, "ArrayIndexOutOfBoundsException, when there is no such mark");
        for (int bad : Check.outside(8)) {
            Check.refusedForIndex("mark " + bad, Made::mixed, x -> x.right(bad));
            Check.noIndex("a new object, mark " + bad, () -> new RenameRows(1, 1, 1).right(bad));
        }
    }

    private static void whenItIsFree() {
        Check.about(PROMISE, "IllegalStateException, when it is free");
        for (int mark = 0; mark <= 7; mark++) {
            int free = mark;
            Check.noState("a new object, mark " + mark, () -> new RenameRows(1, 1, 1).right(free));
            if (mark > 1) {
                Check.refusedForState("never taken, mark " + mark, Made::mixed, x -> x.right(free));
            }
        }
        Check.refusedForState("was right", Promise10Test::afterRight, x -> x.right(0));
        Check.refusedForState("was wrong", Promise10Test::afterWrong, x -> x.right(1));
        Check.refusedForState("came after the wrong one", Promise10Test::afterBothWrong, x -> x.right(1));
    }

    private static RenameRows afterRight() {
        RenameRows x = Made.mixed();
        x.right(0);
        return x;
    }

    private static RenameRows afterWrong() {
        RenameRows x = Made.mixed();
        x.wrong(1);
        return x;
    }

    private static RenameRows afterBothWrong() {
        RenameRows x = Made.mixed();
        x.wrong(0);
        return x;
    }
}
