/** Objects in situations that several tests begin with. */
final class Made {
    private static final int NONE = RenameRows.NONE;

    private Made() {
    }

    /**
     * Three registers, nine names, five places. Place 0: done; 1: ended; mark 0; 2: going;
     * mark 1; 3: waits for row 2, at port 4; place 4: no row yet.
     */
    static RenameRows mixed() {
        RenameRows x = new RenameRows(3, 6, 5);
        x.dispatch(0, 1, 0);
        x.dispatch(NONE, NONE, 1);
        x.select(1);
        x.end(0);
        x.commit(1);
        x.select(1);
        x.end(1);
        x.branch();
        x.dispatch(0, 1, 2);
        x.select(1);
        x.branch();
        x.dispatch(2, NONE, 0);
        x.port(3, 4);
        return x;
    }

    /** Two registers, six names of which two are free, two places, both with a waiting row. */
    static RenameRows full() {
        RenameRows x = new RenameRows(2, 4, 2);
        x.dispatch(0, 1, 0);
        x.dispatch(0, NONE, 1);
        return x;
    }

    /** Two registers, three names of which none is free, four places, one with a waiting row. */
    static RenameRows withoutFreeName() {
        RenameRows x = new RenameRows(2, 1, 4);
        x.dispatch(0, 1, 0);
        return x;
    }

    /** Two registers, three names of which none is free, one place with a waiting row. */
    static RenameRows fullWithoutFreeName() {
        RenameRows x = new RenameRows(2, 1, 1);
        x.dispatch(0, 1, 0);
        return x;
    }

    /** One after the other, so many rows come, give register 0 a name, go, end and are done. */
    static void oneByOne(RenameRows x, int rows) {
        for (int k = 0; k < rows; k++) {
            int place = x.dispatch(0, NONE, 0);
            x.select(1);
            x.end(place);
            x.commit(1);
        }
    }

    /** So many rows that read and give nothing come, and are waiting. */
    static void idle(RenameRows x, int rows) {
        for (int k = 0; k < rows; k++) {
            x.dispatch(NONE, NONE, NONE);
        }
    }

    /** So many rows that have ended at once, and change no name, come. */
    static void moves(RenameRows x, int rows) {
        for (int k = 0; k < rows; k++) {
            x.move(0, 0);
        }
    }
}
