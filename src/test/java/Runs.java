/** Turns of calls that are all allowed, from which tests make long and mixed runs. */
final class Runs {
    private static final int NONE = RenameRows.NONE;

    private Runs() {
    }

    /** One turn of an object with three registers; the same number is always the same turn. */
    static void step(RenameRows x, int turn) {
        switch (turn % 10) {
            case 0: case 3: x.dispatch(turn % 3, NONE, (turn / 3) % 3); break;
            case 1: x.move(turn / 10 % 3, turn / 20 % 3); break;
            case 2: case 5: x.select(8); break;
            case 4: case 7: endWhatGoes(x); break;
            case 6: takeAMark(x, turn); break;
            case 8: giveAMark(x, turn); break;
            default: x.commit(2); break;
        }
    }

    private static void endWhatGoes(RenameRows x) {
        int place = x.selected(0);
        if (place == NONE || x.count(3) == 0) {
            return;
        }
        // The row that went may have left the ring since: ages tell whether one is there.
        int age = Math.floorMod(place - x.count(8), x.count(2));
        if (age < x.count(3) && x.row(place, 6) == 1) {
            x.end(place);
        }
    }

    private static void takeAMark(RenameRows x, int turn) {
        if (x.count(5) == 0) {
            x.branch();
        }
        x.dispatch(NONE, turn % 3, turn % 3);
    }

    private static void giveAMark(RenameRows x, int turn) {
        if (x.count(5) == 0) {
            return;
        }
        if (turn / 10 % 2 == 0) {
            x.right(0);
        } else {
            x.wrong(0);
        }
    }
}
