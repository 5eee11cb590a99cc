/** Promise 1 (a new object): a test for each sentence that names a boundary. */
public final class Promise01Test {
    private static final String PROMISE = "Promise 1";
    private static final int[] FAR = {Integer.MIN_VALUE, Integer.MIN_VALUE + 1, Integer.MIN_VALUE + 2,
        Integer.MAX_VALUE - 1, Integer.MAX_VALUE, -1_000_000_007, 1_000_000_007};

    public static void main(String[] args) {
        registersModulo32();
        namesModulo64BehindTheRegisters();
        placesModulo64();
        restsNotBelowZero();
        asManyAsTheyAreTold();
        Check.close();
    }

    private static int rest(long value, int size) {
        return (int) (1 + (((value - 1) % size) + size) % size);
    }

    private static void registersModulo32() {
        Check.about(PROMISE, "R is 1 + (registers - 1) modulo 32");
        registers(1, 1);
        registers(2, 2);
        registers(31, 31);
        registers(32, 32);
        registers(33, 1);
        registers(64, 32);
        registers(65, 1);
        for (int value = -100; value <= 100; value++) {
            registers(value, rest(value, 32));
        }
    }

    private static void registers(int value, int want) {
        RenameRows x = new RenameRows(value, 5, 7);
        Check.due("R of " + value, x.count(0), want);
        Check.due("P of " + value + " registers", x.count(1), want + 5);
        Check.due("N of " + value + " registers", x.count(2), 7);
    }

    private static void namesModulo64BehindTheRegisters() {
        Check.about(PROMISE, "P is R + 1 + (names - 1) modulo 64");
        names(1, 1);
        names(2, 2);
        names(63, 63);
        names(64, 64);
        names(65, 1);
        names(128, 64);
        names(129, 1);
        for (int value = -200; value <= 200; value++) {
            names(value, rest(value, 64));
        }
    }

    private static void names(int value, int want) {
        for (int registers : new int[] {1, 3, 32}) {
            RenameRows x = new RenameRows(registers, value, 7);
            Check.due("P of " + value, x.count(1), registers + want);
            Check.due("free of " + value, x.count(4), want);
            Check.due("R of " + value + " names", x.count(0), registers);
            Check.due("N of " + value + " names", x.count(2), 7);
        }
    }

    private static void placesModulo64() {
        Check.about(PROMISE, "N is 1 + (places - 1) modulo 64");
        places(1, 1);
        places(2, 2);
        places(63, 63);
        places(64, 64);
        places(65, 1);
        places(128, 64);
        places(129, 1);
        for (int value = -200; value <= 200; value++) {
            places(value, rest(value, 64));
        }
    }

    private static void places(int value, int want) {
        RenameRows x = new RenameRows(3, 5, value);
        Check.due("N of " + value, x.count(2), want);
        Check.due("R of " + value + " places", x.count(0), 3);
        Check.due("P of " + value + " places", x.count(1), 8);
    }

    private static void restsNotBelowZero() {
        Check.about(PROMISE, "rests not below 0");
        registers(0, 32);
        registers(-1, 31);
        registers(-31, 1);
        registers(-32, 32);
        names(0, 64);
        names(-1, 63);
        names(-63, 1);
        names(-64, 64);
        places(0, 64);
        places(-1, 63);
        places(-63, 1);
        places(-64, 64);
        for (int value : FAR) {
            registers(value, rest(value, 32));
            names(value, rest(value, 64));
            places(value, rest(value, 64));
        }
    }

    private static void asManyAsTheyAreTold() {
        Check.about(PROMISE, "R is .. P is .. N is (and so many there are, from the least to the most)");
        for (int[] size : new int[][] {{1, 1, 1}, {32, 64, 64}, {0, 0, 0}, {33, 65, 65}}) {
            RenameRows x = new RenameRows(size[0], size[1], size[2]);
            int r = rest(size[0], 32);
            int p = r + rest(size[1], 64);
            int n = rest(size[2], 64);
            Check.due("the last register", x.name(r - 1), r - 1);
            Check.noIndex("no more registers", () -> x.name(r));
            Check.due("the last name", x.shares(p - 1), 0);
            Check.noIndex("no more names", () -> x.shares(p));
            Check.noState("the last place", () -> x.row(n - 1, 0));
            Check.noIndex("no more places", () -> x.row(n, 0));
            for (int k = 0; k < n; k++) {
                Check.due("a place for each row", x.move(0, 0), k);
            }
            Check.due("and for no more", x.move(0, 0), RenameRows.NONE);
        }
    }
}
