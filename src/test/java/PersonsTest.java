import java.util.Random;

/** Promises 1 to 15: the model, transactions, the tape, the log, crash and reopen. */
public final class PersonsTest {
    private static final int[] ROWS = {1, 16, 16, 24, 16, 8, 24, 8, 12, 6, 7, 9, 1};
    /** Least and most of each field, by tables. */
    private static final int[][] LIMITS = {
        {1, 500, 1, 500, 1, 4000, 0, 50, 1, 64, 1, 48, 1, 6, 1, 6},
        {0, 2000, 0, 2000, 0, 2000, 0, 2000, 0, 2000, 0, 2000, 0, 2000, 0, 2000, 0, 2000},
        {0, 2, 0, 15, 0, 15, 0, 15, 0, 15, 0, 2000, 0, 2000, 0, 16},
        {0, 60000, 0, 15, 0, 15, -15, 15, 0, 2000},
        {0, 600000, 1, 32},
        {0, 1, 0, 15, 0, 15, 0, 2000, -1, 15, 0, 15},
        {0, 10000, 0, 15, 0, 15, 0, 2000, 0, 1000000000},
        {0, 16777215, 0, 16777215, 0, 16777215, 0, 16777215, 0, 16777215, 0, 16777215, 0, 16777215, 0, 16777215,
            0, 16777215, 0, 16777215, 0, 16777215, 0, 16777215, 0, 4, 0, 1},
        {0, 1, 0, 19, 0, 19, 0, 9, 0, 9, 0, 7, 0, 7},
        {0, 1, 0, 19, 0, 9, 0, 7, 0, 19, 0, 9, 0, 7, 0, 1},
        {0, 20, 0, 6, 0, 6, 0, 40, 0, 127},
        {0, 4000}};

    public static void main(String[] args) {
        constants();
        newObject();
        limits();
        transactions();
        clashes();
        faults();
        tasksInCircles();
        randomTasks();
        tape();
        texts();
        undone();
        theLog();
        fullLog();
        crashes();
        downAnswers();
        Check.end();
    }

    private static void constants() {
        Check.due("BAD", ShipYard.BAD, -1);
        Check.due("NO", ShipYard.NO, -2);
        Check.due("DOWN", ShipYard.DOWN, -3);
        Check.due("FULL", ShipYard.FULL, -4);
        Check.due("NONE", ShipYard.NONE, Long.MIN_VALUE);
    }

    private static void newObject() {
        Yard x = new Yard();
        for (int what = 0; what <= 5; what++) {
            Check.due("told(" + what + ")", x.told(what), 0);
        }
        Check.due("told(6)", x.told(6), -2);
        Check.due("told(7)", x.told(7), -1);
        Check.due("told(-1)", x.told(-1), -1);
        Check.due("log(0)", x.log(0), -1);
        for (int table = 0; table < 13; table++) {
            int fields = table == 12 ? 301 : LIMITS[table].length / 2;
            x = new Yard();
            for (int row = 0; row < ROWS[table]; row++) {
                for (int field = 0; field < fields; field++) {
                    int least = table == 12 ? 0 : Math.max(0, LIMITS[table][2 * field]);
                    Check.due("model(" + table + ", " + row + ", " + field + ")", x.model(table, row, field), least);
                }
            }
            Check.due("a row too many of " + table, x.model(table, ROWS[table], 0), -1);
            Check.due("a field too many of " + table, x.model(table, 0, fields), -1);
            Check.due("row -1 of " + table, x.model(table, -1, 0), -1);
            Check.due("field -1 of " + table, x.model(table, 0, -1), -1);
        }
        Check.due("model(13, 0, 0)", x.model(13, 0, 0), -1);
        Check.due("model(-1, 0, 0)", x.model(-1, 0, 0), -1);
    }

    private static void limits() {
        Yard x = new Yard();
        Check.due("put ahead of open", x.put(0, 0, 0, 0, 1), -2);
        Check.due("bad put ahead of open", x.put(0, 0, 0, 0, 0), -1);
        for (int table = 0; table < 12; table++) {
            x = new Yard();
            Check.due("open(0)", x.open(0), 0);
            for (int field = 0; field < LIMITS[table].length / 2; field++) {
                int row = ROWS[table] - 1;
                int least = LIMITS[table][2 * field];
                int most = LIMITS[table][2 * field + 1];
                String put = "put(0, " + table + ", " + row + ", " + field + ")";
                Check.due(put + " below", x.put(0, table, row, field, least - 1), -1);
                Check.due(put + " above", x.put(0, table, row, field, most + 1), -1);
                Check.due(put + " most", x.put(0, table, row, field, most), 1);
                Check.due("get", x.get(0, table, row, field), most);
                Check.due(put + " least", x.put(0, table, row, field, least), 1);
                Check.due("get", x.get(0, table, row, field), least);
                Check.due(put + " of no row", x.put(0, table, row + 1, field, least), -1);
                Check.due(put + " of row -1", x.put(0, table, -1, field, least), -1);
                Check.due("get of no row", x.get(0, table, row + 1, field), -1);
            }
            Check.due("put of no field", x.put(0, table, 0, LIMITS[table].length / 2, 1), -1);
            Check.due("put of field -1", x.put(0, table, 0, -1, 1), -1);
            Check.due("get of no field", x.get(0, table, 0, LIMITS[table].length / 2), -1);
            Check.due("rows written", x.leave(0), 1);
        }
        Check.due("open(0)", x.open(0), 0);
        Check.due("put of the rules", x.put(0, 12, 0, 0, 0), -1);
        Check.due("put of table 13", x.put(0, 13, 0, 0, 0), -1);
        Check.due("put of table -1", x.put(0, -1, 0, 0, 0), -1);
        Check.due("get of the rules", x.get(0, 12, 0, 300), 0);
        Check.due("get of the rules' field 301", x.get(0, 12, 0, 301), -1);
        Check.due("get of table 13", x.get(0, 13, 0, 0), -1);
        Check.due("rows written", x.leave(0), 0);
    }

    private static void transactions() {
        Yard x = new Yard();
        for (int person : new int[] {-1, 3, Integer.MAX_VALUE, Integer.MIN_VALUE}) {
            Check.due("open", x.open(person), -1);
            Check.due("put", x.put(person, 0, 0, 0, 1), -1);
            Check.due("get", x.get(person, 0, 0, 0), -1);
            Check.due("write", x.write(person), -1);
            Check.due("commit", x.commit(person), -1);
            Check.due("leave", x.leave(person), -1);
        }
        for (int person = 0; person < 3; person++) {
            Check.due("get", x.get(person, 0, 0, 0), -2);
            Check.due("write", x.write(person), -2);
            Check.due("commit", x.commit(person), -2);
            Check.due("leave", x.leave(person), -2);
            Check.due("open", x.open(person), 0);
            Check.due("open", x.open(person), -2);
            Check.due("told(4)", x.told(4), person + 1);
        }
        Check.due("put", x.put(0, 3, 0, 3, -5), 1);
        Check.due("its own", x.get(0, 3, 0, 3), -5);
        Check.due("another's", x.get(1, 3, 0, 3), 0);
        Check.due("the model's", x.model(3, 0, 3), 0);
        Check.due("put what is there", x.put(0, 3, 1, 3, 0), 1);
        Check.due("put again", x.put(0, 3, 1, 4, 9), 1);
        Check.due("put again", x.put(0, 3, 1, 4, 8), 1);
        Check.due("leave", x.leave(0), 2);
        Check.due("told(4)", x.told(4), 2);
        Check.due("open", x.open(0), 0);
        Check.due("what was left is gone", x.get(0, 3, 0, 3), 0);
        Check.due("leave", x.leave(0), 0);
        Check.due("commit of nothing", x.commit(1), 1);
        Check.due("told(1)", x.told(1), 5);
        Check.due("open", x.open(0), 1);
        Check.due("put", x.put(2, 5, 0, 4, -1), 1);
        Check.due("get of -1", x.get(2, 5, 0, 4), -1);
        Check.due("commit", x.commit(2), 2);
        Check.due("it reads what is committed by then", x.get(0, 5, 0, 4), -1);
        Check.due("model of -1", x.model(5, 0, 4), -1);
    }

    private static void clashes() {
        Yard x = new Yard();
        x.open(0);
        x.open(1);
        x.open(2);
        x.put(0, 2, 3, 7, 4);
        x.put(0, 11, 8, 0, 4);
        x.put(1, 2, 3, 5, 4);
        x.get(2, 11, 8, 0);
        x.get(2, 2, 3, 0);
        Check.due("commit", x.commit(0), 1);
        Check.due("a clash by writing", x.commit(1), -120);
        Check.due("it is gone", x.commit(1), -2);
        Check.due("a clash by reading, the first row", x.commit(2), -120);
        Check.due("nothing is changed", x.model(2, 3, 5), 0);
        Check.due("told(0)", x.told(0), 1);
        x.open(0);
        x.open(1);
        x.put(0, 2, 3, 7, 4);
        x.get(1, 2, 3, 7);
        Check.due("commit of the same number", x.commit(0), 2);
        Check.due("changes nothing, so no clash", x.commit(1), 3);
        Check.due("told(1)", x.told(1), 5 + 12 + 5 + 5);
        x.open(0);
        x.open(1);
        x.put(0, 0, 0, 0, 7);
        x.put(1, 0, 0, 0, 8);
        Check.due("leave", x.leave(0), 1);
        Check.due("commit", x.commit(1), 4);
        x.open(0);
        x.get(0, 0, 0, 1);
        Check.due("undo", x.undo(4), 5);
        Check.due("a clash by undo", x.commit(0), -100);
        x.open(0);
        x.open(1);
        x.put(0, 1, 2, 8, 5);
        x.put(1, 1, 2, 8, 6);
        x.put(1, 2, 0, 0, 1);
        x.commit(0);
        Check.due("a clash ahead of a fault", x.commit(1), -103);
    }

    /** One row made wrong: the fault that is due; 0: it is right. */
    private static void fault(int due, int table, int row, int... fields) {
        Yard x = spacesAndTasks();
        x.open(0);
        Check.row(x, table, row, fields);
        int commits = x.told(0);
        Check.due("commit of table " + table + " row " + row, x.commit(0), due == 0 ? commits + 1 : due);
        Check.due("told(5)", x.told(5), 0);
        if (due == 0) {
            x.undo(commits + 1);
        } else {
            Check.due("it is gone", x.commit(0), -2);
        }
    }

    private static Yard spacesAndTasks() {
        Yard x = new Yard();
        x.open(0);
        for (int s = 0; s < 16; s++) {
            Check.row(x, 1, s, 10, 20, 30, 40, 50, 60, 70, 80, 90);
        }
        Check.row(x, 2, 0, 2, 2, 4, 0, 7, 20, 75, 3);
        Check.row(x, 2, 1, 1, 5, 6, 0, 7, 20, 75, 3);
        Check.row(x, 10, 0, 1);
        Check.row(x, 10, 1, 1);
        Check.row(x, 10, 3, 1, 1, 1, 0, 1);
        Check.due("commit", x.commit(0), 1);
        return x;
    }

    private static void faults() {
        fault(0, 2, 2, 0, 9, 3);
        fault(-319, 2, 2, 1, 9, 3, 0, 0, 0, 1);
        fault(-319, 2, 2, 1, 9, 9, 4, 3, 0, 1);
        fault(-319, 2, 2, 2, 9, 9, 4, 4, 1, 1);
        fault(0, 2, 2, 2, 9, 9, 4, 4, 0, 1);
        fault(0, 2, 2, 2, 4, 5, 8, 15, 0, 2000);
        fault(-319, 2, 2, 2, 4, 5, 7, 15, 0, 2000);
        fault(0, 2, 2, 2, 4, 5, 7, 15, 75, 2000);
        fault(0, 2, 2, 2, 4, 5, 7, 15, 0, 20);
        fault(-319, 2, 2, 2, 4, 5, 7, 15, 0, 21);
        fault(-319, 2, 2, 2, 4, 5, 7, 15, 74, 80);
        fault(-318, 2, 0, 2, 2, 5);
        fault(0, 3, 23, 0, 2, 1);
        fault(-356, 3, 23, 1, 2, 1);
        fault(0, 3, 23, 1, 2, 2);
        fault(0, 4, 0, 3 * (55 + 55 + 45 + 35 + 25 + 15 + 5));
        fault(-357, 4, 0, 3 * (55 + 55 + 45 + 35 + 25 + 15 + 5) + 1);
        fault(0, 4, 0, 3 * (5 + 15 + 25 + 35 + 45 + 55 + 55));
        fault(-358, 4, 1, 1);
        fault(-359, 4, 2, 1);
        fault(0, 5, 0, 1, 0, 0, 0, -1, 0);
        fault(0, 5, 0, 1, 0, 0, 0, 1, 0);
        fault(-373, 5, 0, 1, 0, 0, 0, 0, 0);
        fault(-373, 5, 0, 1, 0, 0, 0, 2, 0);
        fault(-373, 5, 0, 1, 0, 0, 0, -1, 2);
        fault(0, 5, 0, 0, 0, 0, 0, 3, 2);
        fault(0, 6, 5, 0, 8, 7);
        fault(-386, 6, 5, 1, 8, 7);
        fault(-405, 7, 0, 0, 1, 0, 0, 0, 0, 0, 0, 0, 0, 0, 0, 1);
        fault(-405, 7, 0, 2, 2, 0, 0, 0, 0, 0, 0, 0, 0, 0, 0, 1);
        fault(0, 7, 0, 2, 0, 0, 0, 0, 0, 0, 0, 0, 0, 0, 1, 1);
        fault(0, 7, 0, 0, 2, 0, 0, 0, 0, 0, 0, 0, 0, 0, 0, 0);
        fault(-413, 8, 0, 1, 2, 1);
        fault(-413, 8, 0, 1, 2, 2, 1, 0);
        fault(-413, 8, 0, 1, 2, 2, 1, 1, 7, 6);
        fault(0, 8, 0, 0, 2, 1, 1, 0, 7, 6);
        fault(0, 8, 0, 1, 2, 2, 1, 1, 6, 7);
        fault(-431, 10, 0, 1, 0, 0, 0, 1);
        fault(-431, 10, 0, 1, 0, 0, 0, 4);
        fault(-431, 10, 0, 1, 0, 0, 0, 8);
        fault(0, 10, 1, 1, 0, 0, 0, 8);
        fault(-432, 10, 1, 1, 0, 0, 0, 2);
        fault(0, 10, 2, 0, 0, 0, 0, 127);
        fault(-434, 10, 0, 0);
        Yard x = spacesAndTasks();
        x.open(0);
        x.put(0, 1, 3, 8, 21);
        Check.due("a deck that leaves a tank less room is right", x.commit(0) > 0 ? 1 : 0, 1);
        x.open(0);
        x.put(0, 4, 0, 0, 300);
        x.put(0, 3, 0, 0, 1);
        x.put(0, 3, 0, 1, 1);
        Check.due("the first of two faults", x.commit(0), -333);
    }

    /** Days and bits of tasks 0, 1, ..: what a commit of these answers on a new object. */
    private static void tasks(int due, int... daysAndBits) {
        Yard x = new Yard();
        x.open(0);
        StringBuilder told = new StringBuilder("tasks");
        for (int t = 0; t < daysAndBits.length / 2; t++) {
            x.put(0, 10, t, 0, daysAndBits[2 * t]);
            x.put(0, 10, t, 4, daysAndBits[2 * t + 1]);
            told.append(' ').append(daysAndBits[2 * t]).append(':').append(daysAndBits[2 * t + 1]);
        }
        Check.due(told.toString(), x.commit(0), due);
    }

    private static void tasksInCircles() {
        tasks(1, 1, 2, 1, 0);
        tasks(-431, 1, 2, 1, 1);
        tasks(-431, 1, 2, 1, 4, 1, 1);
        tasks(-432, 1, 2, 1, 4, 1, 2);
        // What leads through a row without days leads nowhere.
        tasks(-432, 1, 2, 1, 4, 0, 1);
        tasks(-432, 1, 2, 1, 12, 0, 1, 0, 1);
        tasks(-433, 1, 2, 1, 4, 1, 8, 0, 1);
        tasks(-433, 1, 2, 1, 4, 1, 8, 0, 16, 0, 3);
        tasks(-431, 1, 2, 1, 5, 0, 1);
        tasks(-431, 1, 6, 1, 0, 0, 0);
        tasks(1, 0, 2, 0, 1, 0, 4);
        tasks(1, 0, 127, 1, 0, 0, 127, 20, 2, 0, 127, 1, 10, 0, 127);
        tasks(-437, 0, 0, 0, 0, 0, 0, 0, 0, 0, 0, 0, 0, 1, 64);
    }

    private static void randomTasks() {
        Random r = new Random(10);
        for (int run = 0; run < 4000; run++) {
            int[] daysAndBits = new int[14];
            for (int t = 0; t < 7; t++) {
                daysAndBits[2 * t] = r.nextInt(3) == 0 ? 0 : 1 + r.nextInt(20);
                daysAndBits[2 * t + 1] = r.nextInt(128) & r.nextInt(128) & (run % 2 == 0 ? 127 : r.nextInt(128));
            }
            int due = 1;
            for (int t = 6; t >= 0; t--) {
                boolean has = daysAndBits[2 * t] > 0;
                boolean leadsToNone = false;
                for (int u = 0; u < 7; u++) {
                    leadsToNone |= (daysAndBits[2 * t + 1] >> u & 1) == 1 && daysAndBits[2 * u] == 0;
                }
                due = has && (leadsToNone || leads(daysAndBits, t, t, 7)) ? -431 - t : due;
            }
            tasks(due, daysAndBits);
        }
    }

    /** Whether a row of at most so many tasks with days leads from one to another. */
    private static boolean leads(int[] daysAndBits, int from, int to, int most) {
        for (int u = 0; u < 7 && most > 0; u++) {
            boolean next = (daysAndBits[2 * from + 1] >> u & 1) == 1 && daysAndBits[2 * u] > 0;
            if (next && (u == to || leads(daysAndBits, u, to, most - 1))) {
                return true;
            }
        }
        return false;
    }

    private static void tape() {
        Yard x = new Yard();
        Check.due("cut(0)", x.cut(0), 0);
        Check.due("cut(1)", x.cut(1), -1);
        Check.due("cut(-1)", x.cut(-1), -1);
        for (int i = 1; i <= 60; i++) {
            Check.due("feed", x.feed(i, -i, i << 16, Integer.MIN_VALUE, Integer.MAX_VALUE), 20 * i);
        }
        Check.due("feed", x.feed(1, 2, 3, 4, 5), -4);
        Check.due("told(2)", x.told(2), 1200);
        Check.due("cut(19)", x.cut(19), 1181);
        Check.due("feed", x.feed(1, 2, 3, 4, 5), -4);
        Check.due("cut(1)", x.cut(1), 1180);
        Check.due("cut(1181)", x.cut(1181), -1);
        Check.due("cut(min)", x.cut(Integer.MIN_VALUE), -1);
        Check.due("feed", x.feed(1, 2, 3, 4, 5), 1200);
        Check.due("write", x.write(1), -2);
        Check.due("told(2)", x.told(2), 1200);
        x.open(1);
        Check.due("cut(3)", x.cut(3), 1197);
        Check.due("write", x.write(1), 1197);
        Check.due("told(2)", x.told(2), 0);
        Check.due("get", x.get(1, 12, 0, 0), 1197);
        Check.due("get", x.get(1, 12, 0, 1), 1);
        Check.due("get", x.get(1, 12, 0, 2), -1);
        Check.due("get", x.get(1, 12, 0, 4), Integer.MIN_VALUE);
        Check.due("get", x.get(1, 12, 0, 299), 4);
        Check.due("0 behind the text", x.get(1, 12, 0, 300), 0);
        Check.due("another sees none", x.model(12, 0, 1), 0);
        x.feed(0x61626364, 0x65666768, 0x696a6b6c, 0, 0);
        x.cut(11);
        Check.due("write", x.write(1), 9);
        Check.due("get", x.get(1, 12, 0, 0), 9);
        Check.due("get", x.get(1, 12, 0, 3), 0x69000000);
        Check.due("what was there is gone", x.get(1, 12, 0, 299), 0);
        Check.due("leave", x.leave(1), 1);
    }

    private static void texts() {
        Yard x = new Yard();
        Check.due("a text", Check.text(x, "rule a = 1 < 2;"), 1);
        Check.due("told(5)", x.told(5), 0);
        Check.due("told(6)", x.told(6), -2);
        Check.due("a wrong text", Check.text(x, "rule a = 1 < b;"), -447);
        Check.due("told(5)", x.told(5), 3);
        Check.due("told(6)", x.told(6), 13);
        Check.due("the text is what it was", x.rules(0), 1);
        Check.due("commit without a transaction", x.commit(0), -2);
        Check.due("undo of none", x.undo(2), -1);
        Check.due("told(5) stays", x.told(5), 3);
        x.open(1);
        Check.due("commit", x.commit(1), 2);
        Check.due("told(5)", x.told(5), 0);
        Check.text(x, "rule a = 1 < b;");
        x.open(1);
        Check.tape(x, "?");
        x.write(1);
        x.put(1, 6, 0, 0, 1);
        x.put(1, 6, 0, 1, 1);
        Check.due("a lesser row's fault", x.commit(1), -381);
        Check.due("told(5)", x.told(5), 0);
        Check.text(x, "rule a = 1 < b;");
        x.open(0);
        x.open(1);
        Check.tape(x, " ");
        x.write(0);
        Check.tape(x, "?");
        x.write(1);
        Check.due("commit", x.commit(0), 3);
        Check.due("clash", x.commit(1), -247);
        Check.due("told(5)", x.told(5), 0);
        Check.due("an empty text", Check.text(x, ""), 4);
        Check.due("rules", x.rules(0), 0);
        Check.text(x, "?");
        Check.due("told(5)", x.told(5), 1);
        x.crash(0);
        Check.due("crash leaves it", x.told(5), 1);
        Check.due("DOWN", x.commit(0), -3);
        x.reopen();
        Check.due("reopen leaves it", x.told(5), 1);
        Check.due("reopen leaves it", x.told(6), 0);
    }

    private static void undone() {
        Yard x = new Yard();
        Check.due("undo(0)", x.undo(0), -1);
        Check.due("undo(1)", x.undo(1), -1);
        Check.due("undo(-1)", x.undo(-1), -1);
        x.open(0);
        Check.row(x, 2, 0, 1, 0, 0, 0, 0, 0, 9);
        x.put(0, 11, 0, 0, 5);
        Check.due("commit", x.commit(0), 1);
        x.open(0);
        Check.row(x, 5, 0, 1, 0, 0, 0, -1, 0);
        Check.due("commit", x.commit(0), 2);
        Check.due("a fault of undo", x.undo(1), -373);
        Check.due("it changed nothing", x.model(11, 0, 0), 5);
        x.open(0);
        x.put(0, 11, 0, 0, 6);
        x.put(0, 11, 3, 0, 7);
        Check.due("commit", x.commit(0), 3);
        Check.due("a later commit changed it", x.undo(1), -238);
        Check.due("undo", x.undo(3), 4);
        Check.due("model", x.model(11, 0, 0), 5);
        Check.due("model", x.model(11, 3, 0), 0);
        Check.due("undo of an undo", x.undo(4), 5);
        Check.due("model", x.model(11, 0, 0), 6);
        Check.due("a row that is changed back is changed", x.undo(3), -238);
        Check.due("undo", x.undo(2), 6);
        Check.due("model", x.model(5, 0, 0), 0);
        x.open(0);
        Check.due("commit of nothing", x.commit(0), 7);
        Check.due("undo of nothing", x.undo(7), 8);
        Check.due("a text", Check.text(x, "let a = 1;"), 9);
        Check.due("a text", Check.text(x, "let a = 1; rule b = a > 0;"), 10);
        Check.due("undo", x.undo(10), 11);
        Check.due("rules", x.rules(0), 0);
        Check.due("lets", x.rules(1), 1);
        Check.due("undo", x.undo(11), 12);
        Check.due("rules", x.rules(0), 1);
        Check.due("verdict", x.verdict(0), 1);
        x.crash(0);
        Check.due("BAD ahead of DOWN", x.undo(13), -1);
        Check.due("DOWN", x.undo(12), -3);
        x.reopen();
        Check.due("undo behind reopen", x.undo(12), 13);
        Check.due("rules", x.rules(0), 0);
        Check.due("a clash behind reopen", x.undo(1), -238);
    }

    private static void bytes(Yard x, int from, int... due) {
        for (int i = 0; i < due.length; i++) {
            Check.due("log(" + (from + i) + ")", x.log(from + i), due[i]);
        }
    }

    private static void theLog() {
        Yard x = new Yard();
        x.open(0);
        x.put(0, 11, 8, 0, 4000);
        x.put(0, 0, 0, 0, 500);
        x.put(0, 3, 0, 3, -2);
        x.put(0, 3, 1, 3, 0);
        x.commit(0);
        bytes(x, 0, 0, 1, 0, 3, 0, 0, 0, 0, 1, 244, 1, 27, 255, 255, 255, 254, 3, 119, 0, 0, 15, 160, 90);
        Check.due("told(1)", x.told(1), 23);
        Check.due("log(23)", x.log(23), -1);
        Check.due("log(-1)", x.log(-1), -1);
        Check.text(x, "let a = 1;");
        bytes(x, 23, 0, 2, 0, 4, 3, 120, 0, 0, 0, 10, 3, 121, 108, 101, 116, 32, 3, 122, 97, 32, 61, 32,
                3, 123, 49, 59, 0, 0, 90);
        Check.due("told(1)", x.told(1), 23 + 29);
        x.undo(1);
        bytes(x, 52, 0, 3, 0, 3, 0, 0, 0, 0, 0, 1, 1, 27, 0, 0, 0, 0, 3, 119, 0, 0, 0, 0, 90);
    }

    /** A long text is committed, and each commit of it undone: 301 places each time. */
    private static void fullLog() {
        Yard x = new Yard();
        int most = 5 + 6 * 301;
        Check.due("commit", Check.text(x, " ".repeat(1200)), 1);
        int commits = 1;
        while (most * (commits + 1) <= 40000) {
            Check.due("told(1)", x.told(1), most * commits);
            Check.due("undo", x.undo(commits), commits + 1);
            commits++;
        }
        int bytes = most * commits;
        Check.due("bytes that are left", 40000 - bytes, 158);
        Check.due("undo is FULL", x.undo(commits), -4);
        Check.due("told(5)", x.told(5), 0);
        Check.due("told(1)", x.told(1), bytes);
        Check.due("told(0)", x.told(0), commits);
        Check.due("a clash ahead of FULL", x.undo(commits - 1), -247);
        Check.tape(x, "\n".repeat(1200));
        x.open(1);
        Check.due("write", x.write(1), 1200);
        Check.due("FULL", x.commit(1), -4);
        Check.due("told(5)", x.told(5), 0);
        Check.due("the transaction stays", x.told(4), 1);
        Check.due("FULL again", x.commit(1), -4);
        Check.tape(x, "?");
        x.write(1);
        Check.due("a fault ahead of FULL", x.commit(1), -447);
        Check.due("told(4)", x.told(4), 0);
        // With two commits of nothing the next one can end one byte too late, with three just in time.
        for (int empty = 1; empty <= 3; empty++) {
            x.open(1);
            Check.due("commit of nothing", x.commit(1), commits + empty);
            bytes += 5;
            x.open(1);
            int places = (40001 - bytes - 5) / 6;
            for (int i = 0; i < places; i++) {
                Check.due("a plate's row", x.put(1, 7, i / 12, i % 12, 7), 1);
            }
            int end = bytes + 5 + 6 * places;
            Check.due("the end", end, 40000 + (empty == 1 ? -4 : empty == 2 ? 1 : 0));
            if (empty > 1) {
                Check.due("a commit up to byte " + end, x.commit(1), end > 40000 ? -4 : commits + 4);
            }
            x.leave(1);
        }
        Check.due("told(1)", x.told(1), 40000);
        x.open(1);
        Check.due("no room for a commit of nothing", x.commit(1), -4);
        Check.due("crash of all", x.crash(x.told(1)), 0);
        Check.due("reopen", x.reopen(), 0);
        Check.due("model", x.model(12, 0, 0), 0);
        Check.due("there is room again", Check.text(x, "\n".repeat(1200)), 1);
    }

    private static void crashes() {
        Yard x = new Yard();
        Check.due("reopen", x.reopen(), -2);
        x.open(0);
        x.put(0, 11, 0, 0, 5);
        Check.due("commit", x.commit(0), 1);
        x.open(0);
        x.put(0, 11, 1, 0, 6);
        Check.due("commit", x.commit(0), 2);
        Check.due("bars", x.bars(), -2);
        Check.due("sea", x.sea(0), 1);
        Check.due("nest", x.nest(0), 0);
        Check.due("lead", x.lead(), 0);
        Check.due("plan", x.plan(), 0);
        Check.due("crash(23)", x.crash(23), -1);
        Check.due("crash(-1)", x.crash(-1), -1);
        x.open(2);
        x.feed(1, 2, 3, 4, 5);
        Check.due("crash(0)", x.crash(0), 22);
        Check.due("told(4)", x.told(4), 0);
        Check.due("told(3)", x.told(3), 1);
        Check.due("the tape stays", x.told(2), 20);
        Check.due("reopen", x.reopen(), 2);
        Check.due("told(3)", x.told(3), 0);
        Check.due("rest", x.rest(0), -2);
        Check.due("piece", x.piece(0, 0), -2);
        Check.due("sheet", x.sheet(0, 0), -2);
        Check.due("way", x.way(0, 0), -2);
        Check.due("task", x.task(0, 0), -2);
        Check.due("rod", x.rod(0), -2);
        for (int n = 1; n <= 11; n++) {
            Yard y = new Yard();
            y.open(0);
            y.put(0, 11, 0, 0, 5);
            y.commit(0);
            y.open(0);
            y.put(0, 11, 1, 0, 6);
            y.commit(0);
            Check.due("crash", y.crash(n), 22 - n);
            Check.due("told(0)", y.told(0), 2);
            Check.due("told(1)", y.told(1), 22 - n);
            Check.due("log", y.log(22 - n), -1);
            Check.due("reopen", y.reopen(), 1);
            Check.due("told(1)", y.told(1), 11);
            Check.due("model", y.model(11, 0, 0), 5);
            Check.due("model", y.model(11, 1, 0), 0);
            Check.due("undo(2)", y.undo(2), -1);
            Check.due("undo(1)", y.undo(1), 2);
            Check.due("model", y.model(11, 0, 0), 0);
        }
        x.crash(12);
        Check.due("reopen", x.reopen(), 0);
        Check.due("told(1)", x.told(1), 0);
        x.open(0);
        Check.due("the first number again", x.commit(0), 1);
        x.open(0);
        x.put(0, 11, 0, 0, 5);
        x.commit(0);
        x.crash(0);
        x.reopen();
        x.open(0);
        x.get(0, 11, 0, 0);
        Check.due("no clash with what came ahead of it", x.commit(0), 3);
    }

    private static void downAnswers() {
        Yard x = new Yard();
        Check.text(x, "let a = 1; rule b = a = 1;");
        x.open(0);
        x.put(0, 2, 0, 0, 1);
        x.put(0, 2, 0, 6, 1);
        x.commit(0);
        x.crash(0);
        int[] down = {x.open(0), x.put(0, 0, 0, 0, 1), x.get(0, 0, 0, 0), x.write(0), x.commit(0), x.leave(0), x.undo(1),
            x.model(0, 0, 0), x.crash(0), x.sea(0), x.sea(1), (int) x.rest(0), (int) x.rest(11), x.water(0, 0), x.liquid(0),
            x.rules(0), x.verdict(0), x.steps(0), x.nest(0), x.piece(0, 0), x.piece(99, 4), x.sheet(0, 0), x.bars(), x.rod(0),
            x.lead(), x.way(0, 0), x.step(0, 0), x.step(0, 99), x.plan(), x.task(0, 0)};
        for (int i = 0; i < down.length; i++) {
            Check.due("call " + i + " when DOWN", down[i], -3);
        }
        int[] bad = {x.open(3), x.put(0, 0, 0, 0, 0), x.put(0, 12, 0, 0, 0), x.get(0, 13, 0, 0), x.write(-1), x.commit(3),
            x.leave(3), x.undo(3), x.undo(0), x.model(0, 1, 0), x.crash(-1), x.crash(x.told(1) + 1), x.sea(2), x.sea(65536),
            x.sea(-1), (int) x.rest(12), x.water(16, 0), x.water(0, -1), x.liquid(16), x.rules(2), x.verdict(1), x.steps(-1),
            x.nest(4), x.piece(-1, 0), x.piece(0, 5), x.sheet(6, 0), x.sheet(0, 6), x.rod(9), x.way(6, 0), x.way(0, 3),
            x.step(6, 0), x.step(0, -1), x.task(7, 0), x.task(0, 2)};
        for (int i = 0; i < bad.length; i++) {
            Check.due("bad call " + i + " when DOWN", bad[i], -1);
        }
        Check.due("arm", x.arm(0), ShipYard.NONE);
        Check.due("along", x.along(3, 0), ShipYard.NONE);
        Check.due("let", x.let(0, 0), ShipYard.NONE);
        Check.due("feed", x.feed(1, 2, 3, 4, 5), 20);
        Check.due("cut", x.cut(20), 0);
        Check.due("log(1)", x.log(1), 1);
        Check.due("told(0)", x.told(0), 2);
        Check.due("reopen", x.reopen(), 2);
        Check.due("let", x.let(0, 0), 1);
        Check.due("verdict", x.verdict(0), 1);
    }
}
