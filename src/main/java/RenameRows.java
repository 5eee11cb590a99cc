/**
 * Rows of a core that works out of order: registers are given other names,
 * rows wait in a ring until what they read is ready, go to ports by age, end
 * in any order and are done in theirs; wrong branches take back all behind them.
 */
public final class RenameRows {
    public static final int NONE = -1;

    private static final int REGISTER_SIZES = 32;
    private static final int NAME_SIZES = 64;
    private static final int PLACE_SIZES = 64;
    private static final int PORTS = 8;
    private static final int MARKS = 8;

    private static final int WAITING = 0;
    private static final int GOING = 1;
    private static final int ENDED = 2;

    private final Names names;
    private final Ring ring;
    private final Marks marks;
    private final int[] nameNow;
    private final int[] nameSure;
    private final int[] wentTo;
    private int takenBack;
    private int wantsOfPlace;
    private int wantsOfName;

    public RenameRows(int registers, int names, int places) {
        int registerCount = oneToSize(registers, REGISTER_SIZES);
        this.names = new Names(registerCount, oneToSize(names, NAME_SIZES));
        this.ring = new Ring(oneToSize(places, PLACE_SIZES));
        this.marks = new Marks();
        this.nameNow = new int[registerCount];
        this.nameSure = new int[registerCount];
        for (int k = 0; k < registerCount; k++) {
            nameNow[k] = k;
            nameSure[k] = k;
        }
        this.wentTo = new int[PORTS];
        for (int port = 0; port < PORTS; port++) {
            wentTo[port] = NONE;
        }
    }

    public int dispatch(int a, int b, int to) throws ArrayIndexOutOfBoundsException {
        if (!isRegisterOrNone(a) || !isRegisterOrNone(b) || !isRegisterOrNone(to)) {
            throw new ArrayIndexOutOfBoundsException("no such register");
        }
        if (ring.isFull()) {
            wantsOfPlace++;
            return NONE;
        }
        if (to != NONE && names.freeCount() == 0) {
            wantsOfName++;
            return NONE;
        }
        // The names read are looked up before register to gets its new one: it may be a or b.
        int readA = currentName(a);
        int readB = currentName(b);
        int given = to == NONE ? NONE : names.takeFirstFree();
        return appendRow(readA, readB, given, to, WAITING);
    }

    public int move(int a, int to) throws ArrayIndexOutOfBoundsException {
        if (!isRegister(a) || !isRegister(to)) {
            throw new ArrayIndexOutOfBoundsException("no such register");
        }
        if (ring.isFull()) {
            wantsOfPlace++;
            return NONE;
        }
        int shared = currentName(a);
        names.addShare(shared);
        return appendRow(shared, NONE, shared, to, ENDED);
    }

    public int port(int row, int port)
            throws ArrayIndexOutOfBoundsException, IllegalStateException, IllegalArgumentException {
        if (!ring.isPlace(row)) {
            throw new ArrayIndexOutOfBoundsException("no such place");
        }
        if (!ring.isInState(row, WAITING)) {
            throw new IllegalStateException("no waiting row there");
        }
        if (port < 0 || port >= PORTS) {
            throw new IllegalArgumentException("no such port");
        }
        int before = ring.portAt(row);
        ring.setPort(row, port);
        return before;
    }

    public int select(int ports) throws IllegalArgumentException {
        if (ports < 1 || ports > PORTS) {
            throw new IllegalArgumentException("ports are not 1 .. 8");
        }
        int going = 0;
        for (int port = 0; port < PORTS; port++) {
            int place = port < ports ? oldestAbleFor(port) : NONE;
            wentTo[port] = place;
            if (place != NONE) {
                ring.setState(place, GOING);
                going++;
            }
        }
        return going;
    }

    public int selected(int port) throws ArrayIndexOutOfBoundsException {
        if (port < 0 || port >= PORTS) {
            throw new ArrayIndexOutOfBoundsException("no such port");
        }
        return wentTo[port];
    }

    public int end(int row) throws ArrayIndexOutOfBoundsException, IllegalStateException {
        if (!ring.isPlace(row)) {
            throw new ArrayIndexOutOfBoundsException("no such place");
        }
        if (!ring.isInState(row, GOING)) {
            throw new IllegalStateException("no going row there");
        }
        ring.setState(row, ENDED);
        // A waiting row never loses a name it reads, so those that are able now and
        // were not before are just the difference.
        int ableBefore = countAble();
        names.makeReady(ring.givenAt(row));
        return countAble() - ableBefore;
    }

    public int commit(int n) throws IllegalArgumentException {
        if (n < 0) {
            throw new IllegalArgumentException("n is below 0");
        }
        int most = Math.min(n, rowsBeforeOldestMark());
        int left = 0;
        while (left < most && ring.isInState(ring.oldestPlace(), ENDED)) {
            finishOldest();
            left++;
        }
        return left;
    }

    public int branch() {
        return marks.takeLowest(ring.rowsSinceBeginning());
    }

    public int right(int mark) throws ArrayIndexOutOfBoundsException, IllegalStateException {
        if (!marks.isMark(mark)) {
            throw new ArrayIndexOutOfBoundsException("no such mark");
        }
        if (marks.isFree(mark)) {
            throw new IllegalStateException("the mark is free");
        }
        marks.release(mark);
        return marks.takenCount();
    }

    public int wrong(int mark) throws ArrayIndexOutOfBoundsException, IllegalStateException {
        if (!marks.isMark(mark)) {
            throw new ArrayIndexOutOfBoundsException("no such mark");
        }
        if (marks.isFree(mark)) {
            throw new IllegalStateException("the mark is free");
        }
        int behind = ring.rowsSinceBeginning() - marks.rowsBefore(mark);
        for (int k = 0; k < behind; k++) {
            takeBackLast();
        }
        marks.releaseFrom(mark);
        takenBack += behind;
        return behind;
    }

    public int name(int register) throws ArrayIndexOutOfBoundsException {
        if (!isRegister(register)) {
            throw new ArrayIndexOutOfBoundsException("no such register");
        }
        return nameNow[register];
    }

    public int sure(int register) throws ArrayIndexOutOfBoundsException {
        if (!isRegister(register)) {
            throw new ArrayIndexOutOfBoundsException("no such register");
        }
        return nameSure[register];
    }

    public int shares(int name) throws ArrayIndexOutOfBoundsException {
        if (!names.isName(name)) {
            throw new ArrayIndexOutOfBoundsException("no such name");
        }
        return names.sharesOf(name);
    }

    public int queue(int k) throws IllegalArgumentException {
        if (k < 0 || k >= names.freeCount()) {
            throw new IllegalArgumentException("no such name in the queue");
        }
        return names.freeAt(k);
    }

    public int row(int row, int what)
            throws ArrayIndexOutOfBoundsException, IllegalStateException, IllegalArgumentException {
        if (!ring.isPlace(row)) {
            throw new ArrayIndexOutOfBoundsException("no such place");
        }
        if (!ring.holdsRow(row)) {
            throw new IllegalStateException("no row is there");
        }
        switch (what) {
            case 0: return ring.readAAt(row);
            case 1: return ring.readBAt(row);
            case 2: return ring.givenAt(row);
            case 3: return ring.knownAt(row);
            case 4: return ring.registerAt(row);
            case 5: return ring.portAt(row);
            case 6: return ring.stateAt(row);
            default: throw new IllegalArgumentException("no such what");
        }
    }

    public int count(int what) {
        switch (what) {
            case 0: return nameNow.length;
            case 1: return names.total();
            case 2: return ring.placeCount();
            case 3: return ring.rowCount();
            case 4: return names.freeCount();
            case 5: return marks.takenCount();
            case 6: return ring.doneCount();
            case 7: return takenBack;
            case 8: return ring.oldestPlace();
            case 9: return wantsOfPlace;
            case 10: return wantsOfName;
            default: return NONE;
        }
    }

    /** The size is a power of two: the mask is the rest not below 0, right where value - 1 wraps, too. */
    private static int oneToSize(int value, int size) {
        return 1 + ((value - 1) & (size - 1));
    }

    private boolean isRegister(int register) {
        return register >= 0 && register < nameNow.length;
    }

    private boolean isRegisterOrNone(int register) {
        return register == NONE || isRegister(register);
    }

    private int currentName(int register) {
        return isRegister(register) ? nameNow[register] : NONE;
    }

    private int appendRow(int readA, int readB, int given, int to, int state) {
        int place = ring.append(readA, readB, given, currentName(to), to, state);
        if (isRegister(to)) {
            nameNow[to] = given;
        }
        return place;
    }

    private boolean isAble(int place) {
        return ring.isInState(place, WAITING)
                && names.isReadyOrNone(ring.readAAt(place))
                && names.isReadyOrNone(ring.readBAt(place));
    }

    private int oldestAbleFor(int port) {
        for (int age = 0; age < ring.rowCount(); age++) {
            int place = ring.placeOfAge(age);
            if (ring.portAt(place) == port && isAble(place)) {
                return place;
            }
        }
        return NONE;
    }

    private int countAble() {
        int able = 0;
        for (int age = 0; age < ring.rowCount(); age++) {
            if (isAble(ring.placeOfAge(age))) {
                able++;
            }
        }
        return able;
    }

    private int rowsBeforeOldestMark() {
        int oldest = marks.oldest();
        return oldest == NONE ? ring.rowCount() : marks.rowsBefore(oldest) - ring.doneCount();
    }

    private void finishOldest() {
        int place = ring.oldestPlace();
        int register = ring.registerAt(place);
        if (isRegister(register)) {
            nameSure[register] = ring.givenAt(place);
            names.giveBack(ring.knownAt(place));
        }
        ring.dropOldest();
    }

    private void takeBackLast() {
        int place = ring.lastPlace();
        int register = ring.registerAt(place);
        if (isRegister(register)) {
            names.giveBack(ring.givenAt(place));
            nameNow[register] = ring.knownAt(place);
        }
        ring.dropLast();
    }

    /** The names' shares and readiness, and the queue of the free ones. */
    private static final class Names {
        private final int[] held;
        private final boolean[] ready;
        private final int[] queued;
        private int first;
        private int free;

        /** The first names are the registers' own; extra ones are free. */
        Names(int registers, int extra) {
            int total = registers + extra;
            held = new int[total];
            ready = new boolean[total];
            queued = new int[total];
            for (int name = 0; name < total; name++) {
                if (name < registers) {
                    held[name] = 1;
                    ready[name] = true;
                } else {
                    queued[free] = name;
                    free++;
                }
            }
        }

        int total() {
            return held.length;
        }

        boolean isName(int name) {
            return name >= 0 && name < held.length;
        }

        int sharesOf(int name) {
            return isName(name) ? held[name] : 0;
        }

        int freeCount() {
            return free;
        }

        int freeAt(int k) {
            return k >= 0 && k < free ? queued[slotOf(k)] : NONE;
        }

        int takeFirstFree() {
            if (free == 0) {
                return NONE;
            }
            int name = queued[first];
            first = slotOf(1);
            free--;
            held[name] = 1;
            ready[name] = false;
            return name;
        }

        void addShare(int name) {
            if (isName(name)) {
                held[name]++;
            }
        }

        void giveBack(int name) {
            if (!isName(name) || held[name] == 0) {
                return;
            }
            held[name]--;
            if (held[name] == 0) {
                queued[slotOf(free)] = name;
                free++;
            }
        }

        void makeReady(int name) {
            if (isName(name)) {
                ready[name] = true;
            }
        }

        boolean isReadyOrNone(int name) {
            return !isName(name) || ready[name];
        }

        private int slotOf(int k) {
            int slot = first + k;
            return slot < queued.length ? slot : slot - queued.length;
        }
    }

    /** The rows in their places, from the oldest one on and round. */
    private static final class Ring {
        private final int[] readA;
        private final int[] readB;
        private final int[] given;
        private final int[] known;
        private final int[] register;
        private final int[] port;
        private final int[] state;
        private int oldest;
        private int rows;
        private int done;

        Ring(int places) {
            readA = new int[places];
            readB = new int[places];
            given = new int[places];
            known = new int[places];
            register = new int[places];
            port = new int[places];
            state = new int[places];
        }

        int placeCount() {
            return state.length;
        }

        int rowCount() {
            return rows;
        }

        int doneCount() {
            return done;
        }

        /** Rows taken back count as if they had never come: what marks know fits the rows that stand. */
        int rowsSinceBeginning() {
            return done + rows;
        }

        boolean isFull() {
            return rows >= state.length;
        }

        boolean isPlace(int place) {
            return place >= 0 && place < state.length;
        }

        boolean holdsRow(int place) {
            return isPlace(place) && ageOf(place) < rows;
        }

        boolean isInState(int place, int wanted) {
            return holdsRow(place) && state[place] == wanted;
        }

        int oldestPlace() {
            return rows == 0 ? NONE : oldest;
        }

        int lastPlace() {
            return rows == 0 ? NONE : placeOfAge(rows - 1);
        }

        int placeOfAge(int age) {
            int place = oldest + age;
            return place < state.length ? place : place - state.length;
        }

        private int ageOf(int place) {
            return place >= oldest ? place - oldest : place - oldest + state.length;
        }

        int append(int a, int b, int gives, int knows, int to, int begins) {
            if (isFull()) {
                return NONE;
            }
            int place = placeOfAge(rows);
            readA[place] = a;
            readB[place] = b;
            given[place] = gives;
            known[place] = knows;
            register[place] = to;
            port[place] = 0;
            state[place] = begins;
            rows++;
            return place;
        }

        void dropOldest() {
            if (rows > 0) {
                oldest = placeOfAge(1);
                rows--;
                done++;
            }
        }

        void dropLast() {
            if (rows > 0) {
                rows--;
            }
        }

        int readAAt(int place) {
            return isPlace(place) ? readA[place] : NONE;
        }

        int readBAt(int place) {
            return isPlace(place) ? readB[place] : NONE;
        }

        int givenAt(int place) {
            return isPlace(place) ? given[place] : NONE;
        }

        int knownAt(int place) {
            return isPlace(place) ? known[place] : NONE;
        }

        int registerAt(int place) {
            return isPlace(place) ? register[place] : NONE;
        }

        int portAt(int place) {
            return isPlace(place) ? port[place] : NONE;
        }

        int stateAt(int place) {
            return isPlace(place) ? state[place] : NONE;
        }

        void setPort(int place, int value) {
            if (isPlace(place)) {
                port[place] = value;
            }
        }

        void setState(int place, int value) {
            if (isPlace(place)) {
                state[place] = value;
            }
        }
    }

    /** The marks of branches, kept in the order in which they came: two may stand behind the same row. */
    private static final class Marks {
        private final int[] before = new int[MARKS];
        private final int[] byTurn = new int[MARKS];
        private int taken;

        boolean isMark(int mark) {
            return mark >= 0 && mark < MARKS;
        }

        boolean isFree(int mark) {
            return turnOf(mark) == NONE;
        }

        int takenCount() {
            return taken;
        }

        int rowsBefore(int mark) {
            return isMark(mark) ? before[mark] : 0;
        }

        int oldest() {
            return taken == 0 ? NONE : byTurn[0];
        }

        int takeLowest(int rowsBefore) {
            for (int mark = 0; mark < MARKS && taken < MARKS; mark++) {
                if (isFree(mark)) {
                    before[mark] = rowsBefore;
                    byTurn[taken] = mark;
                    taken++;
                    return mark;
                }
            }
            return NONE;
        }

        void release(int mark) {
            int turn = turnOf(mark);
            if (turn == NONE) {
                return;
            }
            for (int k = turn; k + 1 < taken; k++) {
                byTurn[k] = byTurn[k + 1];
            }
            taken--;
        }

        void releaseFrom(int mark) {
            int turn = turnOf(mark);
            if (turn != NONE) {
                taken = turn;
            }
        }

        private int turnOf(int mark) {
            for (int turn = 0; turn < taken; turn++) {
                if (byTurn[turn] == mark) {
                    return turn;
                }
            }
            return NONE;
        }
    }
}
