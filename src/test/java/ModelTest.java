import java.util.ArrayList;
import java.util.Arrays;
import java.util.Collections;
import java.util.List;
import java.util.Random;
import java.util.function.IntSupplier;

/**
 * Long runs of calls with a fixed seed against a second program, which keeps the
 * rows that stand, the queue, and marks, and works all else out from these anew.
 */
public final class ModelTest {
    private static final int NONE = RenameRows.NONE;
    private static final int MOST_CALLS = 512;
    private static final int NO_INDEX = -101;
    private static final int NO_STATE = -102;
    private static final int NO_ARGUMENT = -103;
    private static final int BY_THE_MACHINE = -104;

    private static final class Row {
        int a, b, gave = NONE, knew = NONE, to, port, state;
    }

    private static final class Mark {
        int number, at;
    }

    private static final class Question {
        final String what;
        final IntSupplier call;
        final int want;

        Question(String what, IntSupplier call, int want) {
            this.what = what;
            this.call = call;
            this.want = want;
        }
    }

    private static final class Model {
        final int r, p, n;
        final List<Row> rows = new ArrayList<>();
        final List<Integer> queue = new ArrayList<>();
        final List<Mark> marks = new ArrayList<>();
        final int[] went = {NONE, NONE, NONE, NONE, NONE, NONE, NONE, NONE};
        int done, back, noPlace, noName;

        Model(int registers, int names, int places) {
            r = 1 + Math.floorMod((long) registers - 1, 32);
            p = r + 1 + Math.floorMod((long) names - 1, 64);
            n = 1 + Math.floorMod((long) places - 1, 64);
            for (int k = r; k < p; k++) {
                queue.add(k);
            }
        }

        int nameAfter(int register, int upTo) {
            int name = register;
            for (int k = 0; k < upTo; k++) {
                if (rows.get(k).to == register) {
                    name = rows.get(k).gave;
                }
            }
            return name;
        }

        int name(int register) {
            return register < 0 || register >= r ? NO_INDEX : nameAfter(register, rows.size());
        }

        int sure(int register) {
            return register < 0 || register >= r ? NO_INDEX : nameAfter(register, done);
        }

        int shares(int name) {
            if (name < 0 || name >= p) {
                return NO_INDEX;
            }
            int shares = 0;
            for (int k = 0; k < r; k++) {
                shares += sure(k) == name ? 1 : 0;
            }
            for (int k = done; k < rows.size(); k++) {
                shares += rows.get(k).gave == name ? 1 : 0;
            }
            return shares;
        }

        boolean ready(int name) {
            for (int k = done; k < rows.size(); k++) {
                if (name != NONE && rows.get(k).gave == name && rows.get(k).state != 2) {
                    return false;
                }
            }
            return true;
        }

        void queueUp(int name) {
            if (name != NONE && shares(name) == 0) {
                queue.add(name);
            }
        }

        boolean noRegister(int register) {
            return register < NONE || register >= r;
        }

        int dispatch(int a, int b, int to) {
            if (noRegister(a) || noRegister(b) || noRegister(to)) {
                return NO_INDEX;
            }
            if (rows.size() - done == n) {
                noPlace++;
                return NONE;
            }
            if (to != NONE && queue.isEmpty()) {
                noName++;
                return NONE;
            }
            Row row = new Row();
            row.a = a == NONE ? NONE : name(a);
            row.b = b == NONE ? NONE : name(b);
            row.to = to;
            if (to != NONE) {
                row.knew = name(to);
                row.gave = queue.remove(0);
            }
            rows.add(row);
            return (rows.size() - 1) % n;
        }

        int move(int a, int to) {
            if (noRegister(a) || noRegister(to) || a == NONE || to == NONE) {
                return NO_INDEX;
            }
            if (rows.size() - done == n) {
                noPlace++;
                return NONE;
            }
            Row row = new Row();
            row.a = name(a);
            row.b = NONE;
            row.gave = row.a;
            row.knew = name(to);
            row.to = to;
            row.state = 2;
            rows.add(row);
            return (rows.size() - 1) % n;
        }

        Row at(int place) {
            for (int k = done; k < rows.size(); k++) {
                if (k % n == place) {
                    return rows.get(k);
                }
            }
            return null;
        }

        int port(int place, int port) {
            if (place < 0 || place >= n) {
                return NO_INDEX;
            }
            Row row = at(place);
            if (row == null || row.state != 0) {
                return NO_STATE;
            }
            if (port < 0 || port > 7) {
                return NO_ARGUMENT;
            }
            int before = row.port;
            row.port = port;
            return before;
        }

        boolean able(Row row) {
            return row.state == 0 && ready(row.a) && ready(row.b);
        }

        int select(int ports) {
            if (ports < 1 || ports > 8) {
                return NO_ARGUMENT;
            }
            Arrays.fill(went, NONE);
            int going = 0;
            for (int k = done; k < rows.size(); k++) {
                Row row = rows.get(k);
                if (row.port < ports && went[row.port] == NONE && able(row)) {
                    went[row.port] = k % n;
                    row.state = 1;
                    going++;
                }
            }
            return going;
        }

        int selected(int port) {
            return port < 0 || port > 7 ? NO_INDEX : went[port];
        }

        int end(int place) {
            if (place < 0 || place >= n) {
                return NO_INDEX;
            }
            Row row = at(place);
            if (row == null || row.state != 1) {
                return NO_STATE;
            }
            List<Row> before = new ArrayList<>();
            for (int k = done; k < rows.size(); k++) {
                if (able(rows.get(k))) {
                    before.add(rows.get(k));
                }
            }
            row.state = 2;
            int woken = 0;
            for (int k = done; k < rows.size(); k++) {
                woken += able(rows.get(k)) && !before.contains(rows.get(k)) ? 1 : 0;
            }
            return woken;
        }

        int commit(int most) {
            if (most < 0) {
                return NO_ARGUMENT;
            }
            int stop = rows.size();
            for (Mark mark : marks) {
                stop = Math.min(stop, mark.at);
            }
            int left = 0;
            while (left < most && done < stop && rows.get(done).state == 2) {
                done++;
                left++;
                queueUp(rows.get(done - 1).knew);
            }
            return left;
        }

        Mark marked(int number) {
            for (Mark mark : marks) {
                if (mark.number == number) {
                    return mark;
                }
            }
            return null;
        }

        int branch() {
            for (int number = 0; number < 8; number++) {
                if (marked(number) == null) {
                    Mark mark = new Mark();
                    mark.number = number;
                    mark.at = rows.size();
                    marks.add(mark);
                    return number;
                }
            }
            return NONE;
        }

        int right(int number) {
            if (number < 0 || number > 7) {
                return NO_INDEX;
            }
            Mark mark = marked(number);
            if (mark == null) {
                return NO_STATE;
            }
            marks.remove(mark);
            return marks.size();
        }

        int wrong(int number) {
            if (number < 0 || number > 7) {
                return NO_INDEX;
            }
            Mark mark = marked(number);
            if (mark == null) {
                return NO_STATE;
            }
            int left = 0;
            while (rows.size() > mark.at) {
                Row row = rows.remove(rows.size() - 1);
                queueUp(row.gave);
                left++;
            }
            while (marks.contains(mark)) {
                marks.remove(marks.size() - 1);
            }
            back += left;
            return left;
        }

        int queue(int k) {
            return k < 0 || k >= queue.size() ? NO_ARGUMENT : queue.get(k);
        }

        int row(int place, int what) {
            if (place < 0 || place >= n) {
                return NO_INDEX;
            }
            Row row = at(place);
            if (row == null) {
                return NO_STATE;
            }
            int[] all = {row.a, row.b, row.gave, row.knew, row.to, row.port, row.state};
            return what < 0 || what > 6 ? NO_ARGUMENT : all[what];
        }

        int count(int what) {
            int[] all = {r, p, n, rows.size() - done, queue.size(), marks.size(), done, back,
                rows.size() == done ? NONE : done % n, noPlace, noName};
            return what < 0 || what > 10 ? NONE : all[what];
        }
    }

    public static void main(String[] args) {
        Random random = new Random(20261115);
        for (int run = 0; run < 6000; run++) {
            boolean wild = run % 4 == 0;
            int registers = wild ? random.nextInt() : random.nextInt(6) + 1;
            int names = wild ? random.nextInt() : random.nextInt(12) + 1;
            int places = wild ? random.nextInt() : random.nextInt(10) + 1;
            run(run, random, new RenameRows(registers, names, places), new Model(registers, names, places));
        }
        Check.close();
    }

    /** Some calls, and then, with what is left of the 512, as much as they allow of all that there is to ask. */
    private static void run(int run, Random random, RenameRows x, Model m) {
        int calls = random.nextInt(MOST_CALLS);
        for (int call = 0; call < calls; call++) {
            one("run " + run + " call " + call + " ", random, x, m);
        }
        List<Question> questions = questions(x, m);
        Collections.shuffle(questions, random);
        for (int k = 0; k < questions.size() && calls + k < MOST_CALLS; k++) {
            Question q = questions.get(k);
            same("run " + run + " after " + calls + " calls " + q.what, q.call, q.want);
        }
    }

    /** Mostly a number that is one, at times one beside it or far away. */
    private static int number(Random random, int size) {
        int kind = random.nextInt(40);
        if (kind == 0) {
            return random.nextInt();
        }
        return kind == 1 ? size : kind == 2 ? -2 : kind < 6 ? NONE : random.nextInt(size);
    }

    private static void one(String at, Random random, RenameRows x, Model m) {
        int i = number(random, m.r);
        int j = number(random, m.r);
        int k = number(random, m.r);
        int place = number(random, m.n);
        int eight = number(random, 8);
        int kind = random.nextInt(100);
        if (kind < 30) {
            same(at + "dispatch " + i + " " + j + " " + k, () -> x.dispatch(i, j, k), m.dispatch(i, j, k));
        } else if (kind < 36) {
            same(at + "move " + i + " " + j, () -> x.move(i, j), m.move(i, j));
        } else if (kind < 42) {
            same(at + "port " + place + " " + eight, () -> x.port(place, eight), m.port(place, eight));
        } else if (kind < 54) {
            same(at + "select " + (eight + 1), () -> x.select(eight + 1), m.select(eight + 1));
        } else if (kind < 56) {
            same(at + "selected " + eight, () -> x.selected(eight), m.selected(eight));
        } else if (kind < 74) {
            int going = kind < 68 ? goingPlace(random, m) : place;
            same(at + "end " + going, () -> x.end(going), m.end(going));
        } else if (kind < 83) {
            same(at + "commit " + eight, () -> x.commit(eight), m.commit(eight));
        } else if (kind < 88) {
            same(at + "branch", () -> x.branch(), m.branch());
        } else if (kind < 93) {
            int mark = takenMark(random, m, eight);
            same(at + "right " + mark, () -> x.right(mark), m.right(mark));
        } else if (kind < 96) {
            int mark = takenMark(random, m, eight);
            same(at + "wrong " + mark, () -> x.wrong(mark), m.wrong(mark));
        } else if (kind < 98) {
            int what = number(random, 7);
            same(at + "row " + place + " " + what, () -> x.row(place, what), m.row(place, what));
        } else {
            int what = number(random, 11);
            same(at + "count " + what, () -> x.count(what), m.count(what));
        }
    }

    private static int goingPlace(Random random, Model m) {
        List<Integer> going = new ArrayList<>();
        for (int k = m.done; k < m.rows.size(); k++) {
            if (m.rows.get(k).state == 1) {
                going.add(k % m.n);
            }
        }
        return going.isEmpty() ? 0 : going.get(random.nextInt(going.size()));
    }

    private static int takenMark(Random random, Model m, int other) {
        boolean any = random.nextInt(4) == 0 || m.marks.isEmpty();
        return any ? other : m.marks.get(random.nextInt(m.marks.size())).number;
    }

    private static List<Question> questions(RenameRows x, Model m) {
        List<Question> all = new ArrayList<>();
        for (int k = -1; k <= m.p; k++) {
            int number = k;
            all.add(new Question("name " + k, () -> x.name(number), m.name(k)));
            all.add(new Question("sure " + k, () -> x.sure(number), m.sure(k)));
            all.add(new Question("shares " + k, () -> x.shares(number), m.shares(k)));
            all.add(new Question("queue " + k, () -> x.queue(number), m.queue(k)));
        }
        for (int k = -1; k <= 11; k++) {
            int number = k;
            all.add(new Question("selected " + k, () -> x.selected(number), m.selected(k)));
            all.add(new Question("count " + k, () -> x.count(number), m.count(k)));
        }
        for (int place = -1; place <= m.n; place++) {
            for (int what = -1; what <= 7; what++) {
                int row = place;
                int told = what;
                all.add(new Question("row " + row + " " + told, () -> x.row(row, told), m.row(row, told)));
            }
        }
        return all;
    }

    private static void same(String at, IntSupplier call, int want) {
        int got;
        try {
            got = call.getAsInt();
        } catch (ArrayIndexOutOfBoundsException e) {
            got = Check.isByTheMachine(e) ? BY_THE_MACHINE : NO_INDEX;
        } catch (IllegalStateException e) {
            got = NO_STATE;
        } catch (IllegalArgumentException e) {
            got = NO_ARGUMENT;
        }
        Check.due(at, got, want);
    }
}
