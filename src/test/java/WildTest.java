import java.lang.management.ManagementFactory;
import java.util.ArrayList;
import java.util.List;
import java.util.Random;
import java.util.TreeMap;
import java.util.TreeSet;

/** Random runs of all calls: persons, log and faults against a plain yard; nothing thrown; nothing made by calls. */
public final class WildTest {
    private static final int[] ROWS = {1, 16, 16, 24, 16, 8, 24, 8, 12, 6, 7, 9, 1};
    private static final int[] FIELDS = {8, 9, 8, 5, 2, 6, 5, 14, 7, 8, 5, 1, 301};
    private static final String[] TEXTS = {"", "let a = 1;", "let a = 1; rule b = a > 0;", "rule r = bars < 3 or end > 4;", "?",
        "let a = b;", "rule a = 1 = 1; rule a = 2 = 2;", "table t = 1:1, 0:0;", "let a = sum(k, 1, 9, room(k));", "let"};
    private static final int[] KINDS = {0, 0, 0, 0, 1, 3, 4, 6, 0, 2};

    public static void main(String[] args) {
        for (int seed = 0; seed < 3000; seed++) {
            run(seed);
        }
        made();
        System.out.println("commits " + answers[0] + ", clashes " + answers[1] + ", faults " + answers[2] + ", crashes "
                + answers[3] + ", undone " + answers[4]);
        for (int n : answers) {
            Check.due("enough of each", n > 20 ? 1 : 0, 1);
        }
        Check.end();
    }

    private static final int[] answers = new int[5];

    private static void run(int seed) {
        Random r = new Random(seed);
        Yard x = new Yard();
        Plain p = new Plain();
        int texts = -1;
        for (int call = 0; x.left() > 20; call++) {
            String told = seed + "/" + call + " ";
            int person = r.nextInt(40) == 0 ? r.nextInt(5) - 1 : r.nextInt(3);
            switch (r.nextInt(24)) {
                case 0: Check.due(told + "open", x.open(person), p.open(person)); break;
                case 1: case 2: case 3: case 4: case 5: case 6: case 7: case 8: {
                    int table = 2 + r.nextInt(10);
                    int row = r.nextInt(3) == 0 ? r.nextInt(ROWS[table]) : r.nextInt(Math.min(3, ROWS[table]));
                    int field = r.nextInt(FIELDS[table]);
                    int v = table == 7 && field < 12 ? r.nextInt(4) : r.nextInt(5) == 0 ? r.nextInt(20) : r.nextInt(3);
                    if (r.nextInt(30) == 0) {
                        table = r.nextInt(15) - 1;
                    }
                    int got = x.put(person, table, row, field, v);
                    Check.due(told + "put", got, got == -1 ? -1 : p.put(person, table, row, field, v));
                    break;
                }
                case 9: case 10: {
                    int table = r.nextInt(13);
                    int row = r.nextInt(ROWS[table]);
                    int field = r.nextInt(FIELDS[table]);
                    Check.due(told + "get", x.get(person, table, row, field), p.get(person, table, row, field));
                    Check.due(told + "model", x.model(table, row, field), p.down ? -3 : p.of(p.kept, table, row, field));
                    break;
                }
                case 11:
                    if (x.told(2) == 0) {
                        texts = r.nextInt(TEXTS.length);
                        Check.tape(x, TEXTS[texts]);
                        Check.due(told + "write", x.write(person), p.write(person, TEXTS[texts]));
                        x.cut(x.told(2));
                    }
                    break;
                case 12: case 13: {
                    int due = p.commit(person);
                    Check.due(told + "commit", x.commit(person), due);
                    answers[0] += due > 0 ? 1 : 0;
                    answers[1] += due <= -100 && due > -300 ? 1 : 0;
                    answers[2] += due <= -300 ? 1 : 0;
                    Check.due(told + "told(5)", x.told(5), p.faultKind);
                    break;
                }
                case 14: Check.due(told + "leave", x.leave(person), p.leave(person)); break;
                case 15: {
                    int commit = r.nextInt(3) == 0 ? r.nextInt(8) : p.commits.size() - r.nextInt(3);
                    int due = p.undo(commit);
                    Check.due(told + "undo(" + commit + ")", x.undo(commit), due);
                    Check.due(told + "told(5)", x.told(5), p.faultKind);
                    answers[4] += due > 0 ? 1 : 0;
                    break;
                }
                case 16:
                    if (r.nextInt(6) == 0) {
                        int n = r.nextInt(3) == 0 ? 0 : r.nextInt(60) - 2;
                        int due = p.crash(n);
                        Check.due(told + "crash(" + n + ")", x.crash(n), due);
                        answers[3] += due >= 0 ? 1 : 0;
                    }
                    break;
                case 17: Check.due(told + "reopen", x.reopen(), p.reopen()); break;
                default: lookWildly(x, r); break;
            }
            if (r.nextInt(4) == 0) {
                Check.due(told + "told(0)", x.told(0), p.toldCommits);
                Check.due(told + "told(1)", x.told(1), p.log.size());
                Check.due(told + "told(3)", x.told(3), p.down ? 1 : 0);
            }
            if (!p.log.isEmpty() && r.nextInt(2) == 0) {
                int i = r.nextInt(p.log.size());
                Check.due(told + "log(" + i + ")", x.log(i), p.log.get(i));
            }
        }
    }

    private static int wild(Random r) {
        int[] ends = {Integer.MIN_VALUE, -2049, -2048, -1, 0, 1, 3, 7, 15, 16, 31, 2048, 2049, 65535, 65536, Integer.MAX_VALUE};
        return r.nextInt(3) == 0 ? ends[r.nextInt(ends.length)] : r.nextInt(12);
    }

    private static void lookWildly(Yard x, Random r) {
        int a = wild(r);
        int b = wild(r);
        switch (r.nextInt(30)) {
            case 0: x.sea(r.nextInt(8)); break;
            case 1: x.rest(a); break;
            case 2: x.water(a, b); break;
            case 3: x.liquid(a); break;
            case 4: x.arm(a); break;
            case 5: x.along(a, b); break;
            case 6: x.rules(a); break;
            case 7: x.verdict(a); break;
            case 8: x.steps(a); break;
            case 9: x.let(a, b); break;
            case 10: x.nest(a); break;
            case 11: x.piece(a, b); break;
            case 12: x.sheet(a, b); break;
            case 13: x.bars(); break;
            case 14: x.rod(a); break;
            case 15: x.lead(); break;
            case 16: x.way(a, b); break;
            case 17: x.step(a, b); break;
            case 18: x.plan(); break;
            case 19: x.task(a, b); break;
            case 20: Check.due("no field", x.put(a, b, wild(r), wild(r), Integer.MAX_VALUE), -1); break;
            case 21: x.model(a, b, wild(r)); break;
            case 22: Check.due("no person", x.get(3, a, b, wild(r)), -1); break;
            case 23: x.log(a); break;
            case 24: Check.due("cut too much", x.cut(a < 0 ? a : 1201), -1); break;
            case 25: Check.due("told", x.told(a < 7 ? 7 : a), -1); break;
            case 26: Check.due("undo", x.undo(a < 1 ? a : Integer.MAX_VALUE), -1); break;
            case 27: Check.due("crash", x.crash(a < 0 ? a : 40001), -1); break;
            case 28: Check.due("write", x.write(a < 0 ? a : 3), -1); break;
            default: Check.due("sea", x.sea(a < 0 ? a : 65536), -1); break;
        }
    }

    /** All rows are made with the object: calls make nothing more. */
    private static void made() {
        com.sun.management.ThreadMXBean threads = (com.sun.management.ThreadMXBean) ManagementFactory.getThreadMXBean();
        long self = Thread.currentThread().getId();
        for (int round = 0; round < 6; round++) {
            Yard x = RulesTest.ship(60);
            Check.text(x, "let a = sum(k, 0, 16, bend(k)) + lever(3); rule r = a > bars or start(2) = 3;");
            long before = threads.getThreadAllocatedBytes(self);
            for (int i = 0; x.left() > 15; i++) {
                x.sea(1);
                x.arm(i);
                x.nest(1);
                x.sheet(0, 5);
                x.bars();
                x.lead();
                x.plan();
                x.verdict(0);
                x.let(0, 0);
                x.open(1);
                x.put(1, 11, 0, 0, 20 + i);
                x.commit(1);
                x.undo(x.told(0));
                x.crash(1);
                x.reopen();
            }
            long bytes = threads.getThreadAllocatedBytes(self) - before;
            Check.due("bytes made by calls: " + bytes, bytes < 50000 ? 1 : 0, 1);
        }
    }

    /** The model, transactions, the log and the right rows, told again as plainly as may be. */
    private static final class Plain {
        TreeMap<Integer, Integer> kept = new TreeMap<>();
        final List<TreeMap<Integer, Integer>> commits = new ArrayList<>();
        final List<TreeMap<Integer, Integer>> models = new ArrayList<>();
        final List<Integer> log = new ArrayList<>();
        @SuppressWarnings("unchecked")
        final TreeMap<Integer, Integer>[] written = new TreeMap[3];
        @SuppressWarnings("unchecked")
        final TreeSet<Integer>[] rows = new TreeSet[3];
        final int[] begun = new int[3];
        boolean down;
        int toldCommits;
        int faultKind;

        Plain() {
            models.add(new TreeMap<>());
        }

        static int firstPlace(int table) {
            int place = 0;
            for (int t = 0; t < table; t++) {
                place += ROWS[t] * FIELDS[t];
            }
            return place;
        }

        static int place(int table, int row, int field) {
            return firstPlace(table) + row * FIELDS[table] + field;
        }

        static int row(int place) {
            int row = 0;
            for (int t = 0; t < 13; t++) {
                int first = firstPlace(t);
                if (place < first + ROWS[t] * FIELDS[t]) {
                    return row + (place - first) / FIELDS[t];
                }
                row += ROWS[t];
            }
            return row;
        }

        static int least(int table, int field) {
            return table == 0 && field != 3 || table == 4 && field == 1 ? 1 : 0;
        }

        int of(TreeMap<Integer, Integer> m, int table, int row, int field) {
            return m.getOrDefault(place(table, row, field), least(table, field));
        }

        static int leastAt(int place) {
            for (int t = 12; t >= 0; t--) {
                if (place >= firstPlace(t)) {
                    return least(t, (place - firstPlace(t)) % FIELDS[t]);
                }
            }
            return 0;
        }

        int refused(int person) {
            return person < 0 || person > 2 ? -1 : down ? -3 : written[person] == null ? -2 : 0;
        }

        int open(int person) {
            int no = refused(person);
            if (no != -2) {
                return no == 0 ? -2 : no;
            }
            written[person] = new TreeMap<>();
            rows[person] = new TreeSet<>();
            begun[person] = commits.size();
            return commits.size();
        }

        int put(int person, int table, int row, int field, int v) {
            int no = refused(person);
            if (no != 0) {
                return no;
            }
            written[person].put(place(table, row, field), v);
            return 1;
        }

        int get(int person, int table, int row, int field) {
            int no = refused(person);
            if (no != 0) {
                return no;
            }
            int place = place(table, row, field);
            rows[person].add(row(place));
            return written[person].containsKey(place) ? written[person].get(place) : of(kept, table, row, field);
        }

        int write(int person, String text) {
            int no = refused(person);
            if (no != 0) {
                return no;
            }
            written[person].put(888, text.length());
            for (int i = 0; i < 300; i++) {
                int v = 0;
                for (int j = 4 * i; j < 4 * i + 4; j++) {
                    v = v << 8 | (j < text.length() ? text.charAt(j) : 0);
                }
                written[person].put(889 + i, v);
            }
            return text.length();
        }

        int leave(int person) {
            int no = refused(person);
            if (no != 0) {
                return no;
            }
            TreeSet<Integer> all = new TreeSet<>();
            for (int place : written[person].keySet()) {
                all.add(row(place));
            }
            written[person] = null;
            return all.size();
        }

        int changedSince(int commit, TreeSet<Integer> among) {
            for (int row : among) {
                for (int c = commit; c < commits.size(); c++) {
                    for (int place : commits.get(c).keySet()) {
                        if (row(place) == row) {
                            return row;
                        }
                    }
                }
            }
            return -1;
        }

        int commit(int person) {
            int no = refused(person);
            if (no != 0) {
                return no;
            }
            faultKind = 0;
            TreeSet<Integer> all = rows[person];
            for (int place : written[person].keySet()) {
                all.add(row(place));
            }
            TreeMap<Integer, Integer> changes = written[person];
            written[person] = null;
            int clash = changedSince(begun[person], all);
            if (clash >= 0) {
                return -100 - clash;
            }
            return make(changes);
        }

        int make(TreeMap<Integer, Integer> changes) {
            TreeMap<Integer, Integer> would = new TreeMap<>(kept);
            TreeMap<Integer, Integer> real = new TreeMap<>();
            for (int place : changes.keySet()) {
                if (!kept.getOrDefault(place, leastAt(place)).equals(changes.get(place))) {
                    real.put(place, changes.get(place));
                }
            }
            would.putAll(real);
            int fault = fault(would);
            if (fault >= 0) {
                return -300 - fault;
            }
            kept = would;
            commits.add(real);
            models.add(would);
            toldCommits = commits.size();
            bytes(commits.size(), 2);
            bytes(real.size(), 2);
            for (int place : real.keySet()) {
                bytes(place, 2);
                bytes(real.get(place), 4);
            }
            bytes(90, 1);
            return commits.size();
        }

        void bytes(int v, int n) {
            for (int i = n - 1; i >= 0; i--) {
                log.add(v >> 8 * i & 255);
            }
        }

        int undo(int commit) {
            if (commit < 1 || commit > toldCommits) {
                return -1;
            }
            if (down) {
                return -3;
            }
            faultKind = 0;
            TreeSet<Integer> all = new TreeSet<>();
            TreeMap<Integer, Integer> changes = new TreeMap<>();
            for (int place : commits.get(commit - 1).keySet()) {
                all.add(row(place));
                changes.put(place, models.get(commit - 1).getOrDefault(place, leastAt(place)));
            }
            int clash = changedSince(commit, all);
            return clash >= 0 ? -100 - clash : make(changes);
        }

        int crash(int n) {
            if (n < 0 || n > log.size()) {
                return -1;
            }
            if (down) {
                return -3;
            }
            for (int i = 0; i < n; i++) {
                log.remove(log.size() - 1);
            }
            for (int i = 0; i < 3; i++) {
                written[i] = null;
            }
            down = true;
            return log.size();
        }

        int reopen() {
            if (!down) {
                return -2;
            }
            down = false;
            int at = 0;
            int whole = 0;
            while (whole < commits.size() && at + 5 + 6 * commits.get(whole).size() <= log.size()) {
                at += 5 + 6 * commits.get(whole).size();
                whole++;
            }
            while (log.size() > at) {
                log.remove(log.size() - 1);
            }
            while (commits.size() > whole) {
                commits.remove(commits.size() - 1);
                models.remove(models.size() - 1);
            }
            kept = models.get(whole);
            toldCommits = whole;
            return whole;
        }

        /** The first row that is not right; -1: none. */
        int fault(TreeMap<Integer, Integer> m) {
            int row = 0;
            for (int t = 0; t < 13; t++) {
                for (int i = 0; i < ROWS[t]; i++) {
                    if (!right(m, t, i)) {
                        return row + i;
                    }
                }
                row += ROWS[t];
            }
            return -1;
        }

        boolean upward(TreeMap<Integer, Integer> m, int t, int i, int field) {
            return of(m, t, i, field) <= of(m, t, i, field + 1);
        }

        boolean right(TreeMap<Integer, Integer> m, int t, int i) {
            int first = of(m, t, i, 0);
            switch (t) {
                case 2: return first == 0 || upward(m, t, i, 1) && upward(m, t, i, 3) && of(m, t, i, 5) < of(m, t, i, 6)
                        && !overlaps(m, i);
                case 3: case 6: return first == 0 || upward(m, t, i, 1);
                case 4: return first == 0 || of(m, 2, i, 0) == 2 && first <= room(m, i);
                case 5: {
                    int one = of(m, t, i, 4);
                    int other = of(m, t, i, 5);
                    return first == 0 || of(m, 2, other, 0) > 0 && (one < 0 || one != other && of(m, 2, one, 0) > 0);
                }
                case 7: {
                    boolean bit = false;
                    for (int j = 0; j < 12; j++) {
                        bit |= of(m, t, i, j) % 2 == 1;
                    }
                    return of(m, t, i, 12) == 0 || first != 0 && bit;
                }
                case 8: return first == 0 || upward(m, t, i, 1) && upward(m, t, i, 3) && upward(m, t, i, 5);
                case 10: return first == 0 || taskRight(m, i);
                case 12: {
                    StringBuilder text = new StringBuilder();
                    for (int j = 0; j < first; j++) {
                        text.append((char) (of(m, t, 0, 1 + j / 4) >> 24 - 8 * (j % 4) & 255));
                    }
                    for (int j = 0; j < TEXTS.length; j++) {
                        if (TEXTS[j].contentEquals(text)) {
                            faultKind = KINDS[j];
                        }
                    }
                    return faultKind == 0;
                }
                default: return true;
            }
        }

        boolean overlaps(TreeMap<Integer, Integer> m, int p) {
            for (int q = 0; q < p; q++) {
                boolean apart = of(m, 2, q, 0) == 0;
                for (int field = 1; field < 5; field += 2) {
                    apart |= of(m, 2, p, field) > of(m, 2, q, field + 1) || of(m, 2, q, field) > of(m, 2, p, field + 1);
                }
                apart |= of(m, 2, p, 5) >= of(m, 2, q, 6) || of(m, 2, q, 5) >= of(m, 2, p, 6);
                if (!apart) {
                    return true;
                }
            }
            return false;
        }

        int room(TreeMap<Integer, Integer> m, int p) {
            int units = 0;
            for (int s = of(m, 2, p, 1); s <= of(m, 2, p, 2); s++) {
                for (int k = of(m, 2, p, 3); k <= of(m, 2, p, 4); k++) {
                    int low = Math.max(of(m, 2, p, 5), of(m, 1, s, k < 8 ? 7 - k : k - 8));
                    units += Math.max(0, Math.min(of(m, 2, p, 6), of(m, 1, s, 8)) - low);
                }
            }
            return units;
        }

        boolean taskRight(TreeMap<Integer, Integer> m, int t) {
            TreeSet<Integer> ahead = new TreeSet<>();
            List<Integer> todo = new ArrayList<>();
            todo.add(t);
            for (int i = 0; i < todo.size(); i++) {
                for (int u = 0; u < 7; u++) {
                    if ((of(m, 10, todo.get(i), 4) >> u & 1) == 1) {
                        if (i == 0 && of(m, 10, u, 0) == 0) {
                            return false;
                        }
                        if (of(m, 10, u, 0) > 0 && ahead.add(u)) {
                            todo.add(u);
                        }
                    }
                }
            }
            return !ahead.contains(t);
        }
    }
}
