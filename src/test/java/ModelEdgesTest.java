/** Parts 1 and 2 of the document, promises 1 to 15: each sentence that names a boundary case, with a test of its own. */
public final class ModelEdgesTest {
    private static final int BAD = -1, NO = -2, DOWN = -3, FULL = -4;
    private static final int[] ROWS = {1, 16, 16, 24, 16, 8, 24, 8, 12, 6, 7, 9, 1};
    private static final int[] FIELDS = {8, 9, 8, 5, 2, 6, 5, 14, 7, 8, 5, 1, 301};
    private static final int RULES = 12;

    public static void main(String[] args) {
        newObject();
        leastAtFirst();
        limits();
        whatThereIs();
        rowNumbers();
        placeNumbers();
        columns();
        personsAndTheirTransactions();
        seenByItAlone();
        opens();
        puts();
        gets();
        clashes();
        noClashes();
        faults();
        rightSpaces();
        apartSpaces();
        rightWeightsAndSteel();
        rightFills();
        rightOpenings();
        rightPlates();
        rightSolids();
        rightTasks();
        rightRules();
        whatDoesNotStandThereIsRight();
        feeds();
        cuts();
        writes();
        commits();
        leaves();
        undos();
        records();
        theLogsBytes();
        fullLog();
        crashes();
        reopens();
        models();
        tolds();
        toldFaults();
        downBehindBad();
        notDown();
        keptTillTheNextCommit();
        refusedChangesNothing();
        Check.end();
    }

    // ---- what the tests use

    /** A row of a table: table, row, then its fields from 0 on. */
    private static int[] row(int... tableRowFields) {
        return tableRowFields;
    }

    private static void putAll(Yard x, int[]... rows) {
        for (int[] r : rows) {
            for (int i = 2; i < r.length; i++) {
                Check.due("put(0, " + r[0] + ", " + r[1] + ", " + (i - 2) + ", " + r[i] + ")",
                        x.put(0, r[0], r[1], i - 2, r[i]), 1);
            }
        }
    }

    /** Commits rows as person 0: what commit() answers. */
    private static int set(Yard x, int[]... rows) {
        x.open(0);
        putAll(x, rows);
        return x.commit(0);
    }

    private static Yard with(int[]... rows) {
        Yard x = new Yard();
        Check.due("commit of the rows to begin with", set(x, rows), 1);
        return x;
    }

    private static void right(String what, int[]... rows) {
        Check.due(what, set(new Yard(), rows), 1);
    }

    private static void wrong(String what, int due, int[]... rows) {
        Yard x = new Yard();
        Check.due(what, set(x, rows), -300 - due);
        Check.due(what + ": nothing is changed", x.told(0) + x.told(1), 0);
    }

    // ---- part 1, promise 1

    private static void newObject() {
        Check.says("The least MODEL, no COMMITS, an empty TAPE and LOG");
        Yard used = new Yard();
        used.feed(1, 2, 3, 4, 5);
        Check.due("another object", set(used, row(11, 0, 7)), 1);
        Yard x = new Yard();
        Check.due("COMMITS", x.told(0), 0);
        Check.due("bytes of THE LOG", x.told(1), 0);
        Check.due("bytes of THE TAPE", x.told(2), 0);
        Check.due("whether it is DOWN", x.told(3), 0);
        Check.due("TRANSACTIONS", x.told(4), 0);
        Check.due("a FAULT", x.told(5), 0);
        Check.due("its byte", x.told(6), NO);
        Check.due("log(0)", x.log(0), BAD);
        Check.due("undo(1)", x.undo(1), BAD);
        Check.due("undo(0)", x.undo(0), BAD);
        Check.due("cut(1)", x.cut(1), BAD);
        Check.due("reopen()", x.reopen(), NO);
        Check.due("what another object has", x.model(11, 0, 0), 0);
        Check.due("rules", x.rules(0) + x.rules(1), 0);
        Check.due("rest(0)", x.rest(0), NO);
        Check.due("piece(0, 0)", x.piece(0, 0), NO);
        Check.due("sheet(0, 0)", x.sheet(0, 0), NO);
        Check.due("rod(0)", x.rod(0), NO);
        Check.due("way(0, 0)", x.way(0, 0), NO);
        Check.due("task(0, 0)", x.task(0, 0), NO);
        Check.due("crash(0)", x.crash(0), 0);
        Check.due("reopen()", x.reopen(), 0);
    }

    private static void leastAtFirst() {
        Check.says("each FIELD is at first the least number that it may be (0, if that is below 0)");
        for (int table = 0; table < 13; table++) {
            Yard x = new Yard();
            for (int row = 0; row < ROWS[table]; row++) {
                for (int field = 0; field < FIELDS[table]; field++) {
                    boolean one = table == 0 && field != 3 || table == 4 && field == 1;
                    Check.due("model(" + table + ", " + row + ", " + field + ")", x.model(table, row, field), one ? 1 : 0);
                }
            }
        }
    }

    /** What a field may be: its ends, and what is beyond them, in the first row and the last one. */
    private static void mayBe(int table, int field, int least, int most) {
        for (int row = 0; row < ROWS[table]; row += Math.max(1, ROWS[table] - 1)) {
            String put = "put(0, " + table + ", " + row + ", " + field + ", ";
            Yard x = new Yard();
            x.open(0);
            Check.due(put + (least - 1) + ")", x.put(0, table, row, field, least - 1), BAD);
            Check.due(put + (most + 1) + ")", x.put(0, table, row, field, most + 1), BAD);
            Check.due(put + "the least int)", x.put(0, table, row, field, Integer.MIN_VALUE), BAD);
            Check.due(put + "the greatest int)", x.put(0, table, row, field, Integer.MAX_VALUE), BAD);
            Check.due("what is refused is not WRITTEN", x.leave(0), 0);
            x.open(0);
            Check.due(put + most + ")", x.put(0, table, row, field, most), 1);
            Check.due("get() of the most", x.get(0, table, row, field), most);
            Check.due(put + (most + 1) + ")", x.put(0, table, row, field, most + 1), BAD);
            Check.due("get() behind a BAD put", x.get(0, table, row, field), most);
            Check.due(put + least + ")", x.put(0, table, row, field, least), 1);
            Check.due("get() of the least", x.get(0, table, row, field), least);
        }
    }

    private static void limits() {
        Check.says("0 LENGTH of a slice, 1 BREADTH of a column (1 .. 500 each)");
        mayBe(0, 0, 1, 500);
        mayBe(0, 1, 1, 500);
        Check.says("2 a bar, 3 a saw's cut (1 .. 4000, 0 .. 50)");
        mayBe(0, 2, 1, 4000);
        mayBe(0, 3, 0, 50);
        Check.says("4, 5 a sheet's cells along x, y (1 .. 64, 1 .. 48)");
        mayBe(0, 4, 1, 64);
        mayBe(0, 5, 1, 48);
        Check.says("6 HANDS, 7 CRANES (1 .. 6)");
        mayBe(0, 6, 1, 6);
        mayBe(0, 7, 1, 6);
        Check.says("0 .. 7 BOTTOMS, 8 the DECK (0 .. 2000)");
        for (int field = 0; field <= 8; field++) {
            mayBe(1, field, 0, 2000);
        }
        Check.says("0 KIND (0 none, 1 a hold, 2 a tank)");
        mayBe(2, 0, 0, 2);
        Check.says("1, 2 SLICES from, to (0 .. 15), 3, 4 COLUMNS from, to (0 .. 15)");
        for (int field = 1; field <= 4; field++) {
            mayBe(2, field, 0, 15);
        }
        Check.says("5, 6 HEIGHTS from, to (0 .. 2000), 7 what stands in it, in sixteenths (0 .. 16)");
        mayBe(2, 5, 0, 2000);
        mayBe(2, 6, 0, 2000);
        mayBe(2, 7, 0, 16);
        Check.says("0 UNITS in each of its SLICES (0 none, .. 60000)");
        mayBe(3, 0, 0, 60000);
        Check.says("1, 2 SLICES from, to, 3 its ARM (-15 .. 15, in half columns), 4 HEIGHT (0 .. 2000)");
        mayBe(3, 1, 0, 15);
        mayBe(3, 2, 0, 15);
        mayBe(3, 3, -15, 15);
        mayBe(3, 4, 0, 2000);
        Check.says("0 UNITS of liquid (0 .. 600000), 1 its weight in sixteenths of water's (1 .. 32)");
        mayBe(4, 0, 0, 600000);
        mayBe(4, 1, 1, 32);
        Check.says("0 whether it is there (0, 1), 1 SLICE, 2 COLUMN (0 .. 15), 3 HEIGHT (0 .. 2000)");
        mayBe(5, 0, 0, 1);
        mayBe(5, 1, 0, 15);
        mayBe(5, 2, 0, 15);
        mayBe(5, 3, 0, 2000);
        Check.says("4 a SPACE, or -1 outside (-1 .. 15), 5 a SPACE (0 .. 15)");
        mayBe(5, 4, -1, 15);
        mayBe(5, 5, 0, 15);
        Check.says("0 area (0 none, .. 10000), 1, 2 SLICES from, to, 3 HEIGHT (0 .. 2000), 4 its own moment (0 .. 1000000000)");
        mayBe(6, 0, 0, 10000);
        mayBe(6, 1, 0, 15);
        mayBe(6, 2, 0, 15);
        mayBe(6, 3, 0, 2000);
        mayBe(6, 4, 0, 1000000000);
        Check.says("0 .. 11 rows of 24 bits (0 .. 16777215)");
        for (int field = 0; field <= 11; field++) {
            mayBe(7, field, 0, 16777215);
        }
        Check.says("12 how many are wanted (0 .. 4), 13 whether they may be turned (0, 1)");
        mayBe(7, 12, 0, 4);
        mayBe(7, 13, 0, 1);
        Check.says("SOLIDS, 12: 0 whether it is there (0, 1), 1, 2 x from, to (0 .. 19), 3, 4 y (0 .. 9), 5, 6 z (0 .. 7)");
        int[] solid = {1, 19, 19, 9, 9, 7, 7};
        for (int field = 0; field < 7; field++) {
            mayBe(8, field, 0, solid[field]);
        }
        Check.says("PIPES, 6: 0 whether it is there, 1 .. 3 one end x, y, z, 4 .. 6 the other (as in SOLIDS), 7 GAP (0, 1)");
        int[] pipe = {1, 19, 9, 7, 19, 9, 7, 1};
        for (int field = 0; field < 8; field++) {
            mayBe(9, field, 0, pipe[field]);
        }
        Check.says("0 days (0 none, .. 20), 1 hands, 2 cranes that it needs (0 .. 6)");
        mayBe(10, 0, 0, 20);
        mayBe(10, 1, 0, 6);
        mayBe(10, 2, 0, 6);
        Check.says("3 the first day that it may begin (0 .. 40), 4 bits of TASKS that must have ended ahead of it (0 .. 127)");
        mayBe(10, 3, 0, 40);
        mayBe(10, 4, 0, 127);
        Check.says("RODS, 9: 0 length (0 none, .. 4000)");
        mayBe(11, 0, 0, 4000);
    }

    private static void noSuch(Yard x, int table, int row, int field) {
        String told = "(" + table + ", " + row + ", " + field + ")";
        Check.due("put" + told, x.put(0, table, row, field, 1), BAD);
        Check.due("get" + told, x.get(0, table, row, field), BAD);
        Check.due("model" + told, x.model(table, row, field), BAD);
    }

    private static void whatThereIs() {
        Check.says("TABLES (number, how many ROWS), FIELDS (number: what, what it may be)");
        for (int table = 0; table < 13; table++) {
            Yard x = new Yard();
            x.open(0);
            int rows = ROWS[table];
            int fields = FIELDS[table];
            for (int row = 0; row < rows; row++) {
                Check.due("put() of row " + row, x.put(0, table, row, fields - 1, 1), table == RULES ? BAD : 1);
                Check.due("get() of row " + row, x.get(0, table, row, fields - 1), table == RULES ? 0 : 1);
            }
            noSuch(x, table, rows, 0);
            noSuch(x, table, -1, 0);
            noSuch(x, table, Integer.MAX_VALUE, 0);
            noSuch(x, table, Integer.MIN_VALUE, 0);
            noSuch(x, table, rows - 1, fields);
            noSuch(x, table, rows - 1, -1);
            noSuch(x, table, 0, Integer.MAX_VALUE);
            noSuch(x, table, 0, Integer.MIN_VALUE);
        }
        Yard x = new Yard();
        x.open(0);
        for (int table : new int[] {-1, 13, Integer.MAX_VALUE, Integer.MIN_VALUE}) {
            noSuch(x, table, 0, 0);
        }
        Check.due("leave()", x.leave(0), 0);
    }

    /** Changes a field of a row so that all rows stay right. */
    private static void change(Yard x, int person, int table, int row) {
        if (table == RULES) {
            Check.tape(x, " ");
            Check.due("write()", x.write(person), 1);
        } else {
            int field = table == 1 || table == 7 || table == 11 || table == 0 ? 0 : 1;
            Check.due("put()", x.put(person, table, row, field, 2), 1);
        }
    }

    private static void rowNumbers() {
        Check.says("ROWS are numbered through, by TABLES: YARD's is 0, HULL's 1 .. 16, SPACES' 17 .. 32, and so on, up to 147 in all");
        int first = 0;
        for (int table = 0; table < 13; table++) {
            for (int row = 0; row < ROWS[table]; row++) {
                Yard x = new Yard();
                x.open(0);
                x.open(1);
                change(x, 0, table, row);
                x.get(1, table, row, FIELDS[table] - 1);
                Check.due("commit of row " + row + " of table " + table, x.commit(0), 1);
                Check.due("a CLASH by row " + row + " of table " + table, x.commit(1), -100 - first - row);
            }
            first += ROWS[table];
        }
        Check.due("rows in all", first, 148);
    }

    private static int placeAt(Yard x, int change) {
        return 256 * x.log(4 + 6 * change) + x.log(5 + 6 * change);
    }

    private static void placeNumbers() {
        Check.says("PLACES likewise: each FIELD of each ROW of each TABLE in order");
        int first = 0;
        for (int table = 0; table < 12; table++) {
            int last = FIELDS[table] - 1;
            for (int row = 0; row < ROWS[table]; row++) {
                Yard x = new Yard();
                x.open(0);
                x.put(0, table, row, last, x.model(table, row, last) + 1);
                Check.due("commit", x.commit(0), 1);
                Check.due("the last FIELD of row " + row + " of table " + table, placeAt(x, 0), first + (row + 1) * (last + 1) - 1);
            }
            first += ROWS[table] * (last + 1);
        }
        Check.due("the first PLACE of RULES", first, 888);
        Yard x = with(row(1, 15, 2000, 1999, 1998, 1997, 1996, 1995, 1994, 1993, 1992));
        for (int field = 0; field < 9; field++) {
            Check.due("FIELD " + field, placeAt(x, field), 8 + 15 * 9 + field);
            Check.due("what it is", 256 * x.log(8 + 6 * field) + x.log(9 + 6 * field), 2000 - field);
        }
        x = new Yard();
        Check.text(x, " ".repeat(1200));
        for (int i = 0; i < 301; i += 50) {
            Check.due("FIELD " + i + " of RULES", placeAt(x, i), 888 + i);
        }
    }

    private static void columns() {
        Check.says("the BOTTOM of COLUMN c is that of FIELD 7 - c, if c is below 8, else of c - 8");
        Yard x = new Yard();
        x.open(0);
        putAll(x, row(1, 3, 0, 10, 20, 30, 40, 50, 60, 70, 100));
        for (int c = 0; c < 16; c++) {
            putAll(x, row(2, c, 1, 3, 3, c, c, 0, 200));
        }
        Check.due("commit", x.commit(0), 1);
        StringBuilder text = new StringBuilder();
        for (int c = 0; c < 16; c++) {
            text.append("let w").append((char) ('a' + c)).append("=room(").append(c).append(");");
        }
        Check.due("commit", Check.text(x, text.toString()), 2);
        int[] bottom = {70, 60, 50, 40, 30, 20, 10, 0, 0, 10, 20, 30, 40, 50, 60, 70};
        for (int c = 0; c < 16; c++) {
            Check.due("room of COLUMN " + c, x.let(c, 0), 100 - bottom[c]);
        }
        Check.says("(it is none, if that is not above the BOTTOM)");
        for (int deck = 48; deck <= 52; deck++) {
            x = with(row(1, 0, 50, 50, 50, 50, 50, 50, 50, 50, deck), row(2, 0, 1, 0, 0, 0, 15, 0, 2000));
            Check.due("commit", Check.text(x, "let a = room(0);"), 2);
            Check.due("room below a DECK at " + deck, x.let(0, 0), 16 * Math.max(0, deck - 50));
            x.sea(0);
            Check.due("V below a DECK at " + deck, x.rest(4), 16 * 1024 * Math.max(0, deck - 50));
        }
    }

    // ---- part 2, persons and transactions

    private static void personsAndTheirTransactions() {
        Check.says("PERSONS 0 .. 2 may have a TRANSACTION each");
        Yard x = new Yard();
        for (int person = 0; person < 3; person++) {
            Check.due("told(4)", x.told(4), person);
            Check.due("open(" + person + ")", x.open(person), 0);
        }
        Check.due("told(4)", x.told(4), 3);
        for (int person : new int[] {-1, 3, Integer.MIN_VALUE, Integer.MAX_VALUE}) {
            Check.due("open(" + person + ")", x.open(person), BAD);
            Check.due("put(" + person + ")", x.put(person, 0, 0, 0, 1), BAD);
            Check.due("get(" + person + ")", x.get(person, 0, 0, 0), BAD);
            Check.due("write(" + person + ")", x.write(person), BAD);
            Check.due("commit(" + person + ")", x.commit(person), BAD);
            Check.due("leave(" + person + ")", x.leave(person), BAD);
        }
        Check.due("told(4)", x.told(4), 3);
    }

    private static void seenByItAlone() {
        Check.says("What it WRITES is seen by it alone, till commit()");
        Yard x = new Yard();
        x.open(0);
        x.open(1);
        x.put(0, 11, 0, 0, 9);
        Check.due("its own", x.get(0, 11, 0, 0), 9);
        Check.due("another's", x.get(1, 11, 0, 0), 0);
        Check.due("the MODEL's", x.model(11, 0, 0), 0);
        x.bars();
        Check.due("what is WORKED OUT", x.rod(0), NO);
        Check.due("commit", x.commit(0), 1);
        Check.due("the MODEL's", x.model(11, 0, 0), 9);
        Check.says("it READS what it WROTE, else what is committed by then");
        Check.due("what another committed", x.get(1, 11, 0, 0), 9);
        x.put(1, 11, 0, 0, 4);
        Check.due("what it WROTE", x.get(1, 11, 0, 0), 4);
        x.open(0);
        x.put(0, 3, 0, 3, 7);
        Check.due("a FIELD that it did not WRITE", x.get(0, 3, 0, 4), 0);
        x.open(2);
        x.put(2, 3, 0, 4, 6);
        Check.due("commit", x.commit(2), 2);
        Check.due("a FIELD that it did not WRITE", x.get(0, 3, 0, 4), 6);
        Check.due("a FIELD that it WROTE", x.get(0, 3, 0, 3), 7);
    }

    // ---- promises 2 to 4

    private static void opens() {
        Check.says("A person's TRANSACTION begins: how many COMMITS there are");
        Yard x = new Yard();
        Check.due("open(1)", x.open(1), 0);
        Check.due("commit of nothing", x.commit(1), 1);
        Check.due("open(1)", x.open(1), 1);
        Check.due("leave(1)", x.leave(1), 0);
        Check.due("open(1)", x.open(1), 1);
        x.leave(1);
        Check.due("undo(1)", x.undo(1), 2);
        Check.due("open(2)", x.open(2), 2);
        Check.says("NO: there is one already");
        Check.due("open(2)", x.open(2), NO);
        Check.due("told(4)", x.told(4), 1);
        x.put(2, 11, 0, 0, 5);
        Check.due("open(2)", x.open(2), NO);
        Check.due("it goes on as it was", x.get(2, 11, 0, 0), 5);
        Check.due("another person's", x.open(0), 2);
    }

    private static void puts() {
        Check.says("BAD: no such person, TABLE (12 is none), ROW, FIELD; the FIELD may not be that; NO: no TRANSACTION");
        Yard x = new Yard();
        Check.due("NO", x.put(0, 0, 0, 0, 1), NO);
        Check.due("BAD ahead of NO: a person", x.put(3, 0, 0, 0, 1), BAD);
        Check.due("BAD ahead of NO: TABLE 12", x.put(0, 12, 0, 0, 0), BAD);
        Check.due("BAD ahead of NO: TABLE 13", x.put(0, 13, 0, 0, 0), BAD);
        Check.due("BAD ahead of NO: a ROW", x.put(0, 0, 1, 0, 1), BAD);
        Check.due("BAD ahead of NO: a FIELD", x.put(0, 0, 0, 8, 1), BAD);
        Check.due("BAD ahead of NO: what it may not be", x.put(0, 0, 0, 0, 0), BAD);
        x.open(0);
        Check.due("another person has none", x.put(1, 0, 0, 0, 1), NO);
        for (int field = 0; field < 301; field += 100) {
            Check.due("TABLE 12", x.put(0, 12, 0, field, 0), BAD);
        }
        Check.says("A FIELD is WRITTEN: 1");
        Check.due("put()", x.put(0, 0, 0, 0, 500), 1);
        Check.due("again", x.put(0, 0, 0, 0, 2), 1);
        Check.due("what is there", x.put(0, 0, 0, 1, 1), 1);
        Check.due("commit", x.commit(0), 1);
        Check.due("the latest one stands", x.model(0, 0, 0), 2);
        Check.due("NO", x.put(0, 0, 0, 0, 1), NO);
    }

    private static void gets() {
        Check.says("BAD: no such person, TABLE, ROW, FIELD; NO (these as answers stand for refusals, though a FIELD may be so)");
        Yard x = new Yard();
        Check.due("NO", x.get(0, 0, 0, 0), NO);
        Check.due("BAD ahead of NO: a person", x.get(-1, 0, 0, 0), BAD);
        Check.due("BAD ahead of NO: a TABLE", x.get(0, 13, 0, 0), BAD);
        Check.due("BAD ahead of NO: a ROW", x.get(0, 0, 1, 0), BAD);
        Check.due("BAD ahead of NO: a FIELD", x.get(0, 0, 0, 8), BAD);
        x.open(0);
        Check.due("another person has none", x.get(1, 0, 0, 0), NO);
        Check.due("TABLE 12", x.get(0, 12, 0, 300), 0);
        Check.due("TABLE 12, FIELD 301", x.get(0, 12, 0, 301), BAD);
        for (int v = -4; v <= -1; v++) {
            x.put(0, 3, 0, 3, v);
            Check.due("a FIELD that is " + v, x.get(0, 3, 0, 3), v);
        }
        x.put(0, 5, 0, 4, -1);
        Check.due("a FIELD that is BAD's number", x.get(0, 5, 0, 4), -1);
    }

    private static void clashes() {
        Check.says("a CLASH: the first ROW that it READ or WROTE and that a COMMIT changed since it was begun");
        Yard x = new Yard();
        x.open(0);
        x.open(1);
        x.open(2);
        putAll(x, row(11, 8, 5), row(6, 7, 0, 3));
        x.put(1, 11, 8, 0, 6);
        x.put(1, 6, 7, 1, 4);
        x.get(2, 11, 8, 0);
        Check.due("commit", x.commit(0), 1);
        Check.due("the first of two that it WROTE", x.commit(1), -100 - 88);
        Check.due("one that it READ", x.commit(2), -100 - 146);
        x.open(0);
        x.open(1);
        x.open(2);
        x.get(1, 6, 7, 4);
        x.put(1, 11, 8, 0, 6);
        x.put(2, 6, 7, 3, 8);
        x.get(2, 11, 8, 0);
        putAll(x, row(11, 8, 6), row(6, 7, 0, 4));
        Check.due("commit", x.commit(0), 2);
        Check.due("READ first, then WROTE", x.commit(1), -188);
        Check.due("WROTE first, then READ, another FIELD of the ROW", x.commit(2), -188);
        x.open(1);
        x.get(1, 11, 8, 0);
        Check.due("undo", x.undo(2), 3);
        Check.due("undo() makes a COMMIT, too", x.commit(1), -246);
        x.open(1);
        x.get(1, 11, 8, 0);
        set(x, row(11, 8, 7));
        set(x, row(11, 8, 5));
        Check.due("changed and changed back", x.model(11, 8, 0), 5);
        Check.due("a CLASH all the same", x.commit(1), -246);
        Check.says("With a CLASH, a FAULT the TRANSACTION is gone, and nothing is changed");
        int commits = x.told(0);
        int bytes = x.told(1);
        x.open(1);
        x.put(1, 11, 8, 0, 1);
        x.put(1, 11, 7, 0, 1);
        set(x, row(11, 8, 2));
        Check.due("a CLASH", x.commit(1), -246);
        Check.due("it is gone", x.commit(1), NO);
        Check.due("told(4)", x.told(4), 0);
        Check.due("another's ROW", x.model(11, 8, 0), 2);
        Check.due("a ROW of its own", x.model(11, 7, 0), 0);
        Check.due("COMMITS", x.told(0), commits + 1);
        Check.due("bytes of THE LOG", x.told(1), bytes + 11);
        x.open(1);
        x.put(1, 11, 7, 0, 1);
        x.put(1, 3, 0, 0, 1);
        x.put(1, 3, 0, 1, 1);
        Check.due("a FAULT", x.commit(1), -333);
        Check.due("it is gone", x.leave(1), NO);
        Check.due("a ROW of its own", x.model(11, 7, 0), 0);
        Check.due("COMMITS", x.told(0), commits + 1);
        Check.due("bytes of THE LOG", x.told(1), bytes + 11);
    }

    private static void noClashes() {
        Check.says("and that a COMMIT changed since it was begun");
        Yard x = new Yard();
        x.open(0);
        x.put(0, 11, 0, 0, 5);
        x.commit(0);
        x.open(1);
        x.get(1, 11, 0, 0);
        x.put(1, 11, 0, 0, 6);
        Check.due("a COMMIT just ahead of open() is no CLASH", x.commit(1), 2);
        x.open(1);
        x.open(2);
        x.get(1, 11, 1, 0);
        set(x, row(11, 0, 7));
        x.get(2, 11, 0, 0);
        Check.due("another ROW is no CLASH", x.commit(1), 4);
        Check.due("READ behind the COMMIT, begun ahead of it", x.commit(2), -100 - 138);
        Check.says("A ROW is changed by a COMMIT when one of its FIELDS becomes another number");
        x.open(1);
        x.get(1, 11, 0, 0);
        x.put(1, 11, 2, 0, 9);
        x.open(0);
        x.put(0, 11, 0, 0, 1);
        x.put(0, 11, 0, 0, 7);
        Check.due("the same number", x.commit(0), 5);
        Check.due("no CLASH", x.commit(1), 6);
        x.open(1);
        x.get(1, 11, 0, 0);
        x.open(0);
        x.put(0, 11, 0, 0, 1);
        x.leave(0);
        Check.due("what is left is no CLASH", x.commit(1), 7);
        x.open(1);
        x.get(1, 3, 0, 0);
        x.open(0);
        x.put(0, 3, 0, 0, 1);
        x.put(0, 3, 0, 1, 1);
        Check.due("a FAULT", x.commit(0), -333);
        Check.due("is no CLASH", x.commit(1), 8);
        x.open(1);
        Check.due("a BAD get() is no READ", x.get(1, 0, 0, 8), BAD);
        Check.due("a BAD put() is no WRITE", x.put(1, 0, 0, 0, 0), BAD);
        Check.due("model() is no READ", x.model(0, 0, 0), 1);
        set(x, row(0, 0, 2));
        Check.due("no CLASH", x.commit(1), 10);
    }

    private static void faults() {
        Check.says("a FAULT: the first ROW that is not right in the MODEL as it would be");
        wrong("the first of two", 33, row(6, 0, 1, 1, 0), row(3, 0, 1, 1, 0));
        wrong("the first of two of one TABLE", 40, row(3, 8, 1, 1, 0), row(3, 7, 1, 1, 0));
        Yard x = with(row(2, 3, 1, 0, 0, 0, 0, 0, 9), row(5, 6, 1, 0, 0, 0, -1, 3));
        Check.due("a ROW that it did not WRITE", set(x, row(2, 3, 0)), -300 - 79);
        x.open(0);
        putAll(x, row(2, 3, 0), row(5, 6, 0));
        Check.due("both together are right", x.commit(0), 2);
        Check.says("-100 less the ROW: a CLASH; -300 less the ROW: a FAULT");
        x.open(1);
        x.put(1, 3, 0, 0, 1);
        x.put(1, 3, 0, 1, 1);
        x.put(1, 11, 8, 0, 1);
        set(x, row(11, 8, 2));
        Check.due("a CLASH of a greater ROW ahead of a FAULT", x.commit(1), -246);
    }

    // ---- part 2, right rows

    private static void rightSpaces() {
        Check.says("SPACES with a KIND: from is not above to (of HEIGHTS: below)");
        right("without a KIND", row(2, 0, 0, 9, 3, 9, 3, 9, 3), row(2, 15, 0, 9, 3, 9, 3, 9, 9));
        for (int kind = 1; kind <= 2; kind++) {
            for (int p = 0; p < 16; p += 15) {
                right("all ends alike", row(2, p, kind, 4, 4, 5, 5, 6, 7));
                right("from below to", row(2, p, kind, 4, 5, 5, 6, 6, 8));
                right("all there is", row(2, p, kind, 0, 15, 0, 15, 0, 2000, 16));
                right("the last ones", row(2, p, kind, 15, 15, 15, 15, 1999, 2000));
                wrong("a SLICE above", 17 + p, row(2, p, kind, 5, 4, 5, 6, 6, 8));
                wrong("a COLUMN above", 17 + p, row(2, p, kind, 4, 5, 6, 5, 6, 8));
                wrong("a HEIGHT alike", 17 + p, row(2, p, kind, 4, 5, 5, 6, 6, 6));
                wrong("a HEIGHT above", 17 + p, row(2, p, kind, 4, 5, 5, 6, 7, 6));
                wrong("a new object's FIELDS", 17 + p, row(2, p, kind));
            }
        }
    }

    /** SPACE 2 beside SPACE 1, that has SLICES and COLUMNS 4 .. 6 and HEIGHTS 40 .. 60. */
    private static void beside(boolean isRight, int... ends) {
        int[] one = row(2, 1, 1, 4, 6, 4, 6, 40, 60);
        int[] other = row(2, 2, 2, ends[0], ends[1], ends[2], ends[3], ends[4], ends[5]);
        String told = "SLICES " + ends[0] + " .. " + ends[1] + ", COLUMNS " + ends[2] + " .. " + ends[3] + ", HEIGHTS "
                + ends[4] + " .. " + ends[5];
        int[] one2 = one.clone();
        int[] other2 = other.clone();
        one2[1] = 2;
        other2[1] = 1;
        if (isRight) {
            right(told, one, other);
            right(told + " the other way round", one2, other2);
        } else {
            wrong(told, 19, one, other);
            wrong(told + " the other way round", 19, one2, other2);
        }
    }

    private static void apartSpaces() {
        Check.says("no lesser SPACE with a KIND has a SLICE, a COLUMN and a part of HEIGHTS (more than an end) with it");
        beside(false, 4, 6, 4, 6, 40, 60);
        beside(false, 5, 5, 5, 5, 50, 51);
        beside(false, 0, 15, 0, 15, 0, 2000);
        beside(true, 7, 9, 4, 6, 40, 60);
        beside(false, 6, 9, 4, 6, 40, 60);
        beside(true, 0, 3, 4, 6, 40, 60);
        beside(false, 0, 4, 4, 6, 40, 60);
        beside(true, 4, 6, 7, 9, 40, 60);
        beside(false, 4, 6, 6, 9, 40, 60);
        beside(true, 4, 6, 0, 3, 40, 60);
        beside(false, 4, 6, 0, 4, 40, 60);
        beside(true, 4, 6, 4, 6, 60, 80);
        beside(false, 4, 6, 4, 6, 59, 80);
        beside(true, 4, 6, 4, 6, 0, 40);
        beside(false, 4, 6, 4, 6, 0, 41);
        int[] all = row(2, 4, 0, 0, 15, 0, 15, 0, 2000);
        int[] other = row(2, 9, 1, 0, 15, 0, 15, 0, 2000);
        right("a lesser SPACE without KIND", all, other);
        all[1] = 12;
        right("a greater SPACE without KIND", all, other);
        all[2] = 1;
        wrong("it is the greater one's FAULT", 17 + 12, all, other);
        wrong("the first of three", 17 + 1, row(2, 0, 1, 0, 1, 0, 0, 0, 9), row(2, 1, 2, 1, 2, 0, 0, 0, 9),
                row(2, 2, 1, 2, 3, 0, 0, 0, 9));
        Yard x = with(row(2, 0, 0, 0, 15, 0, 15, 0, 2000), row(2, 5, 2, 3, 3, 3, 3, 3, 4));
        Check.due("a KIND that comes later", set(x, row(2, 0, 1)), -300 - 17 - 5);
    }

    private static void rightWeightsAndSteel() {
        Check.says("WEIGHTS, STEEL with units, area: SLICES from not above to");
        for (int table = 3; table <= 6; table += 3) {
            int first = table == 3 ? 33 : 81;
            for (int i = 0; i < 24; i += 23) {
                right("none, from above to", row(table, i, 0, 9, 8));
                right("from as to", row(table, i, 1, 9, 9));
                right("from below to", row(table, i, 1, 0, 15));
                wrong("from above to", first + i, row(table, i, 1, 9, 8));
                wrong("the last SLICE above", first + i, row(table, i, 9, 15, 14));
            }
        }
    }

    /** A tank of COLUMNS 7 and 8 of SLICE 2, between HEIGHTS 10 and 30; the hull's bottom and deck there; its FILL. */
    private static int[][] tank(int kind, int bottom, int deck, int units) {
        int[] hull = row(1, 2, bottom, 9, 9, 9, 9, 9, 9, 9, deck);
        return new int[][] {hull, row(2, 5, kind, 2, 2, 7, 8, 10, 30, 3), row(4, 5, units, 32)};
    }

    private static void rightFills() {
        Check.says("FILLS with UNITS: its SPACE is a tank, and they are not above its room (see 5)");
        right("as much as its room", tank(2, 0, 100, 40));
        wrong("more than its room", 62, tank(2, 0, 100, 41));
        right("up to the DECK", tank(2, 0, 25, 30));
        wrong("above the DECK", 62, tank(2, 0, 25, 31));
        right("from the BOTTOM on", tank(2, 28, 100, 4));
        wrong("below the BOTTOM", 62, tank(2, 28, 100, 5));
        right("between both", tank(2, 28, 29, 2));
        wrong("between both", 62, tank(2, 28, 29, 3));
        right("no room, no UNITS", tank(2, 28, 28, 0));
        wrong("no COLUMN", 62, tank(2, 28, 28, 1));
        wrong("a DECK below the BOTTOM", 62, tank(2, 28, 3, 1));
        wrong("a DECK below the tank", 62, tank(2, 0, 10, 1));
        wrong("a BOTTOM above the tank", 62, tank(2, 30, 100, 1));
        wrong("a hold", 62, tank(1, 0, 100, 1));
        right("a hold without UNITS", tank(1, 0, 100, 0));
        wrong("no KIND", 62, tank(0, 0, 100, 1));
        right("no KIND, no UNITS", tank(0, 0, 100, 0));
        wrong("the first SPACE", 57, row(4, 0, 1));
        wrong("the last SPACE", 72, row(4, 15, 1));
        Yard x = with(tank(2, 0, 100, 40));
        Check.due("a DECK that leaves too little room", set(x, row(1, 2, 0, 9, 9, 9, 9, 9, 9, 9, 29)), -362);
        Check.due("a BOTTOM that leaves too little room", set(x, row(1, 2, 11)), -362);
        Check.due("a HEIGHT that leaves too little room", set(x, row(2, 5, 2, 2, 2, 7, 8, 11)), -362);
        Check.due("a KIND that is no tank", set(x, row(2, 5, 1)), -362);
        Check.due("what stands in it is not looked at", set(x, row(2, 5, 2, 2, 2, 7, 8, 10, 30, 0)), 2);
        Check.due("a DECK that leaves just enough", set(x, row(1, 2, 0, 9, 9, 9, 9, 9, 9, 9, 30)), 3);
    }

    private static void opening(int due, int there, int one, int other) {
        int[][] rows = {row(2, 0, 1, 0, 0, 0, 0, 0, 1), row(2, 14, 2, 1, 1, 0, 0, 0, 1), row(2, 15, 1, 2, 2, 0, 0, 0, 1),
            row(5, 7, there, 0, 0, 0, one, other)};
        String told = "an opening from " + one + " to " + other;
        if (due == 0) {
            right(told, rows);
        } else {
            wrong(told, due, rows);
        }
    }

    private static void rightOpenings() {
        Check.says("OPENINGS that are there: FIELD 5 is a SPACE with a KIND, FIELD 4 is -1 or another one with a KIND");
        opening(0, 1, -1, 0);
        opening(0, 1, -1, 15);
        opening(0, 1, 0, 15);
        opening(0, 1, 15, 0);
        opening(0, 1, 14, 15);
        opening(80, 1, -1, 1);
        opening(80, 1, -1, 13);
        opening(80, 1, 0, 1);
        opening(80, 1, 1, 0);
        opening(80, 1, 13, 0);
        opening(80, 1, 0, 0);
        opening(80, 1, 15, 15);
        opening(80, 1, 1, 1);
        opening(0, 0, -1, 1);
        opening(0, 0, 1, 1);
        opening(0, 0, 0, 0);
        wrong("the first OPENING, as it is at first", 73, row(5, 0, 1));
    }

    private static int[] plate(int p, int first, int second, int last, int wanted) {
        return row(7, p, first, second, 0, 0, 0, 0, 0, 0, 0, 0, 0, last, wanted);
    }

    private static void rightPlates() {
        Check.says("PLATES that are wanted: bits in row 0, and bit 0 in some row");
        right("one cell", plate(0, 1, 0, 0, 1));
        right("bit 23 in row 0, bit 0 in row 11", plate(7, 1 << 23, 0, 1, 4));
        right("bit 1 in row 0, bit 0 in row 1", plate(7, 2, 1, 0, 4));
        wrong("no cells", 105, plate(0, 0, 0, 0, 1));
        wrong("no bits in row 0", 112, plate(7, 0, 1, 1, 1));
        wrong("no bit 0", 112, plate(7, 16777214, 16777214, 16777214, 4));
        wrong("neither", 112, plate(7, 0, 2, 2, 1));
        for (int wanted = 1; wanted <= 4; wanted++) {
            wrong("no bit 0, " + wanted + " wanted", 105, row(7, 0, 2, 2, 2, 2, 2, 2, 2, 2, 2, 2, 2, 2, wanted, 1));
            wrong("no bits in row 0, " + wanted + " wanted", 105, row(7, 0, 0, 1, 1, 1, 1, 1, 1, 1, 1, 1, 1, 1, wanted, 1));
        }
        right("not wanted: no cells", plate(0, 0, 0, 0, 0));
        right("not wanted: no bits in row 0", plate(0, 0, 1, 0, 0));
        right("not wanted: no bit 0", plate(0, 2, 0, 0, 0));
    }

    private static void rightSolids() {
        Check.says("SOLIDS that are there: from not above to, three times");
        for (int i = 0; i < 12; i += 11) {
            right("one cell", row(8, i, 1, 19, 19, 9, 9, 7, 7));
            right("all cells", row(8, i, 1, 0, 19, 0, 9, 0, 7));
            wrong("x", 113 + i, row(8, i, 1, 1, 0, 0, 9, 0, 7));
            wrong("y", 113 + i, row(8, i, 1, 0, 19, 1, 0, 0, 7));
            wrong("z", 113 + i, row(8, i, 1, 0, 19, 0, 9, 1, 0));
            right("not there", row(8, i, 0, 1, 0, 1, 0, 1, 0));
        }
        right("two in one place", row(8, 3, 1), row(8, 4, 1));
    }

    private static int[] task(int t, int days, int bits) {
        return row(10, t, days, 0, 0, 0, bits);
    }

    private static void rightTasks() {
        Check.says("TASKS with days: the bits are of TASKS with days");
        right("no bits", task(0, 1, 0), task(6, 20, 0));
        right("bits of the others", task(0, 1, 126), task(1, 1, 0), task(2, 1, 0), task(3, 1, 0), task(4, 1, 0), task(5, 1, 0),
                task(6, 1, 0));
        wrong("one of them has no days", 131, task(0, 1, 126), task(1, 1, 0), task(2, 1, 0), task(3, 1, 0), task(4, 1, 0),
                task(5, 1, 0), task(6, 0, 0));
        wrong("TASK 0 has no days", 137, task(6, 1, 1));
        right("without days", task(6, 0, 127), task(5, 0, 127));
        Yard x = with(task(2, 3, 16), task(4, 1, 0));
        Check.due("the days go", set(x, row(10, 4, 0)), -300 - 133);
        Check.says("one is not, if it must have ended ahead of itself, perhaps by others");
        wrong("itself", 131, task(0, 1, 1));
        wrong("itself", 137, task(6, 1, 64));
        wrong("by one other", 131, task(0, 1, 64), task(6, 1, 1));
        wrong("by all others", 131, task(0, 1, 2), task(1, 1, 4), task(2, 1, 8), task(3, 1, 16), task(4, 1, 32), task(5, 1, 64),
                task(6, 1, 1));
        right("in a row", task(0, 1, 2), task(1, 1, 4), task(2, 1, 8), task(3, 1, 16), task(4, 1, 32), task(5, 1, 64),
                task(6, 1, 0));
        right("in a row the other way round", task(6, 1, 32), task(5, 1, 16), task(4, 1, 8), task(3, 1, 4), task(2, 1, 2),
                task(1, 1, 1), task(0, 1, 0));
        wrong("behind a circle, not in it", 132, task(0, 1, 2), task(1, 1, 4), task(2, 1, 2));
        wrong("a TASK without days is none that leads on", 132, task(0, 1, 2), task(1, 1, 4), task(2, 0, 1));
    }

    private static void rightRules() {
        Check.says("RULES: its TEXT has no FAULT (see 5)");
        Yard x = new Yard();
        Check.due("a TEXT", Check.text(x, "let a = 1;"), 1);
        Check.due("a FAULT", Check.text(x, "let a = 1"), -300 - 147);
        Check.due("the TEXT is as it was", x.model(12, 0, 0), 10);
        Check.due("no TEXT", Check.text(x, ""), 2);
        Check.due("the TEXT is empty", x.model(12, 0, 0) + x.model(12, 0, 1), 0);
    }

    private static void whatDoesNotStandThereIsRight() {
        Check.says("RIGHT is a ROW (what does not stand here is)");
        right("a DECK below all BOTTOMS", row(1, 0, 2000, 2000, 2000, 2000, 2000, 2000, 2000, 2000, 0));
        right("a ROD longer than a bar", row(0, 0, 1, 1, 1), row(11, 8, 4000));
        right("PIPES in a SOLID, in one another", row(8, 0, 1, 0, 19, 0, 9, 0, 7), row(9, 0, 1, 5, 5, 5, 5, 5, 5, 1),
                row(9, 1, 1, 5, 5, 5, 5, 5, 5, 1));
        right("a TASK that needs more than there is", row(0, 0, 1, 1, 1, 0, 1, 1, 1, 1), row(10, 0, 20, 6, 6, 40));
        right("a WEIGHT above the DECK", row(3, 0, 60000, 0, 15, 15, 2000));
        right("a PLATE larger than a sheet", row(0, 0, 1, 1, 1, 0, 1, 1), row(7, 0, 16777215, 16777215, 0, 0, 0, 0, 0, 0, 0, 0,
                0, 0, 4, 1));
        right("an OPENING beyond its SPACES", row(2, 0, 1, 0, 0, 0, 0, 0, 1), row(5, 0, 1, 15, 15, 2000, -1, 0));
        right("a SPACE without COLUMNS", row(2, 0, 1, 0, 15, 0, 15, 0, 2000));
    }

    // ---- promises 5 to 7

    private static void feeds() {
        Check.says("Five ints, the highest byte of each first, come behind THE TAPE: how many bytes it has");
        Yard x = new Yard();
        Check.due("feed", x.feed(0x01020304, 0x7fffffff, -1, Integer.MIN_VALUE, 0), 20);
        Check.due("feed", x.feed(0x11121314, 0x21222324, 0x31323334, 0x41424344, 0x51525354), 40);
        x.open(0);
        Check.due("cut(2)", x.cut(2), 38);
        Check.due("write", x.write(0), 38);
        int[] due = {38, 0x01020304, 0x7fffffff, -1, Integer.MIN_VALUE, 0, 0x11121314, 0x21222324, 0x31323334, 0x41424344,
            0x51520000, 0};
        for (int i = 0; i < due.length; i++) {
            Check.due("FIELD " + i, x.get(0, 12, 0, i), due[i]);
        }
        Check.says("THE TAPE has up to 1200 bytes");
        for (int i = 1; i <= 60; i++) {
            Check.due("feed", x.feed(0, 0, 0, 0, i), 20 * i);
        }
        Check.due("a full TAPE", x.feed(0, 0, 0, 0, 61), FULL);
        Check.due("bytes", x.told(2), 1200);
        for (int n = 1; n <= 19; n++) {
            Check.due("cut(1)", x.cut(1), 1200 - n);
            Check.due("too little room", x.feed(9, 9, 9, 9, 9), FULL);
        }
        Check.due("bytes", x.told(2), 1181);
        Check.due("cut(1)", x.cut(1), 1180);
        Check.due("just enough room", x.feed(-7, -6, -5, -4, -3), 1200);
        Check.due("write", x.write(0), 1200);
        Check.due("the last int", x.get(0, 12, 0, 300), -3);
        Check.due("the first of the last five", x.get(0, 12, 0, 296), -7);
        Check.due("the one ahead of these", x.get(0, 12, 0, 295), 59);
    }

    private static void cuts() {
        Check.says("The last n bytes of THE TAPE go: how many it has");
        Yard x = new Yard();
        Check.due("cut(0) of nothing", x.cut(0), 0);
        Check.due("cut(1) of nothing", x.cut(1), BAD);
        Check.due("cut(-1)", x.cut(-1), BAD);
        x.feed(1, 2, 3, 4, 5);
        Check.due("cut(21)", x.cut(21), BAD);
        Check.due("cut(-1)", x.cut(-1), BAD);
        Check.due("cut(the least int)", x.cut(Integer.MIN_VALUE), BAD);
        Check.due("cut(the greatest int)", x.cut(Integer.MAX_VALUE), BAD);
        Check.due("told(2)", x.told(2), 20);
        Check.due("cut(0)", x.cut(0), 20);
        Check.due("cut(7)", x.cut(7), 13);
        Check.due("cut(13), all of it", x.cut(13), 0);
        Check.due("cut(1)", x.cut(1), BAD);
    }

    private static void writes() {
        Check.says("THE TAPE is WRITTEN as the TEXT of RULES, and is empty then: how many bytes");
        Yard x = new Yard();
        x.open(0);
        x.open(1);
        Check.due("an empty TAPE", x.write(0), 0);
        Check.due("the ROW is WRITTEN all the same", x.leave(0), 1);
        x.open(0);
        Check.says("(any int; 0 behind the TEXT)");
        int[] four = {0x31000000, 0x31320000, 0x31323300, 0x31323334, 0x31323334};
        for (int n = 1; n <= 5; n++) {
            Check.tape(x, "12345".substring(0, n));
            Check.due("write", x.write(0), n);
            Check.due("THE TAPE", x.told(2), 0);
            Check.due("how many bytes", x.get(0, 12, 0, 0), n);
            Check.due("FIELD 1 of " + n + " bytes", x.get(0, 12, 0, 1), four[n - 1]);
            Check.due("FIELD 2 of " + n + " bytes", x.get(0, 12, 0, 2), n == 5 ? 0x35000000 : 0);
        }
        Check.tape(x, "9");
        Check.due("a shorter one", x.write(0), 1);
        Check.due("the longer one is gone", x.get(0, 12, 0, 2), 0);
        Check.due("another's TEXT", x.get(1, 12, 0, 0), 0);
        Check.due("one ROW", x.leave(0), 1);
        Check.says("BAD; NO: no TRANSACTION");
        x.feed(1, 2, 3, 4, 5);
        Check.due("write(0)", x.write(0), NO);
        Check.due("write(3)", x.write(3), BAD);
        Check.due("write(-1)", x.write(-1), BAD);
        Check.due("THE TAPE stays", x.told(2), 20);
        Check.due("write(1)", x.write(1), 20);
    }

    // ---- promises 8 to 10

    private static void commits() {
        Check.says("the number of the COMMIT (it is one also when nothing becomes another number)");
        Yard x = new Yard();
        x.open(2);
        Check.due("nothing WRITTEN", x.commit(2), 1);
        x.open(2);
        x.put(2, 0, 0, 0, 1);
        Check.due("what is there", x.commit(2), 2);
        Check.due("told(0)", x.told(0), 2);
        Check.due("told(1)", x.told(1), 10);
        x.open(2);
        x.put(2, 0, 0, 0, 2);
        Check.due("another number", x.commit(2), 3);
        Check.says("BAD; NO: no TRANSACTION");
        Check.due("commit(2)", x.commit(2), NO);
        Check.due("commit(3)", x.commit(3), BAD);
        Check.due("commit(-1)", x.commit(-1), BAD);
        Check.due("told(0)", x.told(0), 3);
    }

    private static void leaves() {
        Check.says("The TRANSACTION is gone: how many ROWS it had WRITTEN (each once, also with what was there)");
        Yard x = new Yard();
        Check.due("leave(0)", x.leave(0), NO);
        Check.due("leave(3)", x.leave(3), BAD);
        x.open(0);
        Check.due("none", x.leave(0), 0);
        Check.due("it is gone", x.leave(0), NO);
        x.open(0);
        x.get(0, 11, 3, 0);
        Check.due("READ is not WRITTEN", x.leave(0), 0);
        x.open(0);
        x.put(0, 0, 0, 0, 1);
        Check.due("with what was there", x.leave(0), 1);
        x.open(0);
        for (int field = 0; field < 8; field++) {
            x.put(0, 0, 0, field, 1);
        }
        Check.due("eight FIELDS of one ROW", x.leave(0), 1);
        x.open(0);
        for (int table = 0; table < 12; table++) {
            x.put(0, table, 0, 0, 1);
            x.put(0, table, ROWS[table] - 1, 0, 1);
            x.put(0, table, ROWS[table] - 1, 0, 1);
        }
        x.write(0);
        Check.due("two ROWS of each TABLE, one of YARD and of RULES", x.leave(0), 24);
        Check.due("nothing is changed", x.model(11, 0, 0) + x.told(0), 0);
        x.open(0);
        Check.due("a new TRANSACTION has none of it", x.get(0, 11, 0, 0), 0);
        Check.due("leave", x.leave(0), 0);
    }

    private static void undos() {
        Check.says("The ROWS that a COMMIT changed become what they were ahead of it, as a new COMMIT: its number");
        Yard x = with(row(11, 0, 5), row(0, 0, 9, 8));
        Check.due("commit", set(x, row(11, 0, 6), row(3, 0, 0, 0, 0, -7), row(0, 0, 9, 7)), 2);
        Check.due("undo(2)", x.undo(2), 3);
        Check.due("a ROD", x.model(11, 0, 0), 5);
        Check.due("an ARM", x.model(3, 0, 3), 0);
        Check.due("a FIELD that was not changed", x.model(0, 0, 0), 9);
        Check.due("a FIELD that was", x.model(0, 0, 1), 8);
        Check.due("undo(3), of an undo", x.undo(3), 4);
        Check.due("a ROD", x.model(11, 0, 0), 6);
        Check.due("an ARM", x.model(3, 0, 3), -7);
        x.open(1);
        Check.due("a COMMIT of nothing", x.commit(1), 5);
        Check.due("undone", x.undo(5), 6);
        Check.due("a ROD", x.model(11, 0, 0), 6);
        Check.says("-100 less the first of these ROWS that a later COMMIT changed");
        Check.due("undo(1)", x.undo(1), -100);
        Check.due("undo(2)", x.undo(2), -100);
        Check.due("undo(3), which a later one undid", x.undo(3), -100);
        Check.due("undo(4), the latest that changed something", x.undo(4), 7);
        Check.due("undo(6), which changed nothing", x.undo(6), 8);
        Check.says("The ROWS that a COMMIT changed become what they were ahead of it");
        x = with(row(11, 0, 5));
        set(x, row(11, 1, 6));
        set(x, row(11, 2, 7));
        Check.due("undo(3)", x.undo(3), 4);
        Check.due("undo(1) behind undo(3)", x.undo(1), 5);
        Check.due("undo(2) behind both", x.undo(2), 6);
        for (int k = 0; k < 3; k++) {
            Check.due("ROD " + k, x.model(11, k, 0), 0);
        }
        Check.says("-100 less the first of these ROWS that a later COMMIT changed");
        x = with(row(11, 4, 5), row(11, 7, 5));
        set(x, row(11, 7, 6), row(11, 2, 6));
        Check.due("one of two ROWS", x.undo(1), -100 - 145);
        set(x, row(11, 7, 5));
        Check.due("changed back all the same", x.undo(1), -100 - 145);
        set(x, row(3, 0, 0, 0, 0, 3));
        set(x, row(3, 0, 0, 0, 0, 3, 4));
        Check.due("another FIELD of the ROW", x.undo(4), -100 - 33);
        Check.due("the latest", x.undo(5), 6);
        Check.says("-300 less the ROW: a FAULT");
        x = with(row(2, 0, 1, 0, 0, 0, 0, 0, 1));
        set(x, row(5, 3, 1, 0, 0, 0, -1, 0));
        Check.due("a KIND that an OPENING wants", x.undo(1), -300 - 76);
        Check.due("nothing is changed", x.model(2, 0, 0), 1);
        Check.due("COMMITS", x.told(0), 2);
        Check.due("the OPENING first", x.undo(2), 3);
        Check.due("then the SPACE", x.undo(1), 4);
        Check.says("BAD: no such COMMIT");
        for (int commit : new int[] {0, -1, 5, Integer.MAX_VALUE, Integer.MIN_VALUE}) {
            Check.due("undo(" + commit + ")", x.undo(commit), BAD);
        }
        Check.due("the last one", x.undo(4), 5);
        x.open(1);
        Check.due("a TRANSACTION does not keep it from that", x.undo(5), 6);
        Check.due("and stays", x.told(4), 1);
    }

    // ---- the log

    private static void logIs(Yard x, int from, int... due) {
        for (int i = 0; i < due.length; i++) {
            Check.due("log(" + (from + i) + ")", x.log(from + i), due[i]);
        }
        Check.due("bytes", x.told(1), from + due.length);
        Check.due("behind the end", x.log(from + due.length), BAD);
    }

    private static void records() {
        Check.says("A RECORD: the number (2 bytes), n (2), n times a PLACE (2) and what is there now (4), by PLACES, "
                + "of those that became other numbers; 90");
        Yard x = new Yard();
        x.open(0);
        x.commit(0);
        logIs(x, 0, 0, 1, 0, 0, 90);
        set(x, row(11, 8, 4000), row(6, 23, 0, 0, 0, 0, 1000000000), row(3, 0, 0, 0, 0, -15), row(5, 0, 0, 0, 0, 0, -1),
                row(0, 0, 1, 500));
        logIs(x, 5, 0, 2, 0, 5, 0, 1, 0, 0, 1, 244, 1, 27, 255, 255, 255, 241, 1, 180, 255, 255, 255, 255,
                2, 87, 59, 154, 202, 0, 3, 119, 0, 0, 15, 160, 90);
        x.undo(2);
        logIs(x, 40, 0, 3, 0, 5, 0, 1, 0, 0, 0, 1, 1, 27, 0, 0, 0, 0, 1, 180, 0, 0, 0, 0, 2, 87, 0, 0, 0, 0,
                3, 119, 0, 0, 0, 0, 90);
        x.open(0);
        x.put(0, 11, 0, 0, 3);
        x.put(0, 11, 0, 0, 0);
        x.put(0, 11, 1, 0, 4);
        x.commit(0);
        logIs(x, 75, 0, 4, 0, 1, 3, 112, 0, 0, 0, 4, 90);
        Check.says("the number (2 bytes)");
        x = new Yard();
        for (int i = 1; i <= 236; i++) {
            x.open(0);
            x.commit(0);
        }
        for (int i = 237; i <= 257; i++) {
            x.undo(1);
        }
        Check.due("the 255th", x.log(5 * 254) * 256 + x.log(5 * 254 + 1), 255);
        Check.due("the 256th, its first byte", x.log(5 * 255), 1);
        Check.due("the 256th, its second byte", x.log(5 * 255 + 1), 0);
        Check.due("the 257th", x.log(5 * 256) * 256 + x.log(5 * 256 + 1), 257);
        Check.due("COMMITS", x.told(0), 257);
        Check.says("n (2)");
        x = new Yard();
        Check.text(x, " ".repeat(1200));
        Check.due("301 PLACES", x.log(2) * 256 + x.log(3), 301);
        Check.due("bytes", x.told(1), 1811);
        Check.due("its end", x.log(1810), 90);
    }

    private static void theLogsBytes() {
        Check.says("Byte i of THE LOG, 0 .. 255. BAD");
        Yard x = with(row(3, 0, 0, 0, 0, -1));
        Check.due("log(-1)", x.log(-1), BAD);
        Check.due("log(0)", x.log(0), 0);
        Check.due("a byte of 255", x.log(6), 255);
        Check.due("log(10)", x.log(10), 90);
        Check.due("log(11)", x.log(11), BAD);
        Check.due("log(the greatest int)", x.log(Integer.MAX_VALUE), BAD);
        Check.due("log(the least int)", x.log(Integer.MIN_VALUE), BAD);
        x.crash(1);
        Check.due("DOWN: the last byte there is", x.log(9), 255);
        Check.due("DOWN: one that is gone", x.log(10), BAD);
    }

    /** A yard whose LOG has 158 of its 40000 bytes left: a long TEXT is committed, and each COMMIT of it undone. */
    private static Yard almostFull() {
        Yard x = new Yard();
        Check.text(x, " ".repeat(1200));
        for (int commit = 1; commit < 22; commit++) {
            Check.due("undo(" + commit + ")", x.undo(commit), commit + 1);
        }
        Check.due("bytes", x.told(1), 39842);
        return x;
    }

    private static void putPlates(Yard x, int person, int n) {
        for (int i = 0; i < n; i++) {
            x.put(person, 7, i / 12, i % 12, 5);
        }
    }

    private static void fullLog() {
        Check.says("THE LOG has the RECORDS of COMMITS, 40000 bytes at most (FULL: the TRANSACTION stays)");
        Yard x = almostFull();
        for (int i = 0; i < 2; i++) {
            x.open(0);
            Check.due("a COMMIT of nothing", x.commit(0), 23 + i);
        }
        x.open(2);
        putPlates(x, 2, 24);
        Check.due("149 bytes into 148", x.commit(2), FULL);
        Check.due("COMMITS", x.told(0), 24);
        Check.due("bytes", x.told(1), 39852);
        Check.due("the TRANSACTION stays", x.told(4), 1);
        Check.due("with what it WROTE", x.get(2, 7, 1, 11), 5);
        Check.due("the MODEL is as it was", x.model(7, 1, 11), 0);
        Check.due("FULL again", x.commit(2), FULL);
        x.open(0);
        Check.due("5 bytes into 148", x.commit(0), 25);
        Check.due("149 bytes into 143", x.commit(2), FULL);
        x.put(2, 7, 1, 11, 0);
        Check.due("143 bytes into 143", x.commit(2), 26);
        Check.due("bytes", x.told(1), 40000);
        Check.due("the last byte", x.log(39999), 90);
        Check.due("behind it", x.log(40000), BAD);
        Check.due("the MODEL", x.model(7, 1, 10), 5);
        x.open(0);
        Check.due("nothing more", x.commit(0), FULL);
        Check.due("undo() neither", x.undo(26), FULL);
        Check.due("leave()", x.leave(0), 0);
        Check.says("FULL (behind CLASH and FAULT)");
        x = almostFull();
        x.open(0);
        x.open(1);
        x.put(1, 11, 0, 0, 1);
        putPlates(x, 1, 26);
        x.open(2);
        putPlates(x, 2, 26);
        x.put(2, 3, 0, 0, 1);
        x.put(2, 3, 0, 1, 1);
        x.put(0, 11, 0, 0, 2);
        Check.due("a small one", x.commit(0), 23);
        Check.due("a CLASH", x.commit(1), -100 - 138);
        Check.due("a FAULT", x.commit(2), -333);
        Check.due("both are gone", x.told(4), 0);
        Check.says("FULL (behind these)");
        Check.due("undo(22), a CLASH with none", x.undo(22), FULL);
        Check.due("undo(21), a CLASH", x.undo(21), -247);
        Check.due("nothing is changed", x.told(0), 23);
        x = new Yard();
        Check.due("a SPACE and a long TEXT", Check.text(x, " ".repeat(1200)), 1);
        x.undo(1);
        x.open(0);
        putAll(x, row(2, 0, 1, 0, 0, 0, 0, 0, 1));
        Check.tape(x, " ".repeat(1200));
        x.write(0);
        Check.due("commit", x.commit(0), 3);
        set(x, row(5, 0, 1, 0, 0, 0, -1, 0));
        Check.due("undo(3), a FAULT", x.undo(3), -373);
    }

    // ---- promises 13 to 15

    private static void crashes() {
        Check.says("The last n bytes of THE LOG are gone, and the yard is DOWN: how many it has");
        Yard x = with(row(11, 0, 5));
        Check.due("crash(11), all of it", x.crash(11), 0);
        Check.due("told(3)", x.told(3), 1);
        Check.due("told(1)", x.told(1), 0);
        x = with(row(11, 0, 5));
        Check.due("crash(0)", x.crash(0), 11);
        Check.due("told(3)", x.told(3), 1);
        Check.due("told(1)", x.told(1), 11);
        x = with(row(11, 0, 5));
        Check.due("crash(1)", x.crash(1), 10);
        Check.due("told(1)", x.told(1), 10);
        Check.says("BAD: there are not so many, n is below 0");
        x = with(row(11, 0, 5));
        for (int n : new int[] {12, -1, Integer.MAX_VALUE, Integer.MIN_VALUE}) {
            Check.due("crash(" + n + ")", x.crash(n), BAD);
        }
        Check.due("it is not DOWN", x.told(3), 0);
        Check.due("bytes", x.told(1), 11);
        x.crash(4);
        Check.due("when DOWN: as many as there are", x.crash(7), DOWN);
        Check.due("when DOWN: not so many", x.crash(8), BAD);
        Check.due("when DOWN: below 0", x.crash(-1), BAD);
        Check.due("bytes", x.told(1), 7);
        Check.says("crash(): the last bytes of THE LOG are gone; all TRANSACTIONS, and what was worked out; the yard is DOWN");
        x = with(row(11, 0, 1));
        for (int person = 0; person < 3; person++) {
            x.open(person);
            x.put(person, 11, person, 0, 9);
        }
        x.feed(1, 2, 3, 4, 5);
        works(x);
        Check.due("crash(0)", x.crash(0), 11);
        Check.due("TRANSACTIONS", x.told(4), 0);
        Check.due("THE TAPE stays", x.told(2), 20);
        Check.due("reopen()", x.reopen(), 1);
        for (int person = 0; person < 3; person++) {
            Check.due("commit(" + person + ")", x.commit(person), NO);
            Check.due("get(" + person + ")", x.get(person, 0, 0, 0), NO);
        }
        Check.due("what was WRITTEN", x.model(11, 1, 0), 0);
        notWorkedOut(x);
        Check.due("THE TAPE stays", x.told(2), 20);
    }

    private static void reopens() {
        Check.says("reopen(): the MODEL is what the RECORDS that are whole make of the first one, one after the other; "
                + "the others' bytes are gone");
        int[] ends = {0, 11, 16, 33};
        for (int n = 0; n <= 33; n++) {
            Yard x = with(row(11, 0, 5));
            x.open(0);
            x.commit(0);
            set(x, row(11, 0, 6), row(11, 1, 7));
            Check.due("crash(" + n + ")", x.crash(n), 33 - n);
            int whole = 33 - n < 11 ? 0 : 33 - n < 16 ? 1 : 33 - n < 33 ? 2 : 3;
            Check.due("told(0) ahead of reopen()", x.told(0), 3);
            Check.due("reopen() behind crash(" + n + ")", x.reopen(), whole);
            Check.due("told(0)", x.told(0), whole);
            Check.due("told(1)", x.told(1), ends[whole]);
            Check.due("told(3)", x.told(3), 0);
            Check.due("ROD 0", x.model(11, 0, 0), whole == 0 ? 0 : whole == 3 ? 6 : 5);
            Check.due("ROD 1", x.model(11, 1, 0), whole == 3 ? 7 : 0);
            Check.due("a byte that is gone", x.log(ends[whole]), BAD);
            Check.says("how many COMMITS (the next one has the next number)");
            Check.due("undo() of one that is gone", x.undo(whole + 1), BAD);
            Check.due("open()", x.open(1), whole);
            x.put(1, 11, 1, 0, 8);
            Check.due("commit()", x.commit(1), whole + 1);
            Check.due("its number in THE LOG", x.log(ends[whole] + 1), whole + 1);
            Check.says("NO: it is not DOWN");
            Check.due("reopen()", x.reopen(), NO);
        }
        Check.says("the MODEL is what the RECORDS that are whole make of the first one");
        Yard x = new Yard();
        Check.text(x, "let a = 1; rule b = a = 2;");
        Check.text(x, "let a = 1;");
        x.crash(1);
        Check.due("rules as they were", x.rules(0), DOWN);
        x.reopen();
        Check.due("rules", x.rules(0), 1);
        Check.due("lets", x.rules(1), 1);
        Check.due("verdict", x.verdict(0), 0);
        x.crash(x.told(1));
        x.reopen();
        Check.due("rules", x.rules(0), 0);
        Check.due("verdict", x.verdict(0), BAD);
        Check.due("the TEXT", x.model(12, 0, 0), 0);
        x = with(row(0, 0, 9), row(4, 0, 0, 9));
        x.crash(1);
        x.reopen();
        Check.due("LENGTH", x.model(0, 0, 0), 1);
        Check.due("a FILL's weight", x.model(4, 0, 1), 1);
        Check.says("-100 less the first of these ROWS that a later COMMIT changed");
        x = with(row(11, 0, 5));
        set(x, row(11, 0, 6));
        set(x, row(11, 0, 7));
        x.crash(1);
        x.reopen();
        Check.due("a later one that is whole", x.undo(1), -238);
        Check.due("none that is whole", x.undo(2), 3);
        Check.due("ROD 0", x.model(11, 0, 0), 5);
        Check.says("a COMMIT changed since it was begun");
        x.crash(0);
        x.reopen();
        x.open(0);
        x.get(0, 11, 0, 0);
        Check.due("all were ahead of it", x.commit(0), 4);
    }

    private static void models() {
        Check.says("Of the MODEL as committed: a FIELD. BAD (as get(), though a FIELD may be so)");
        Yard x = with(row(5, 0, 0, 0, 0, 0, -1), row(3, 0, 0, 0, 0, -3), row(3, 1, 0, 0, 0, -15));
        Check.due("-1", x.model(5, 0, 4), -1);
        Check.due("-3", x.model(3, 0, 3), -3);
        Check.due("-15", x.model(3, 1, 3), -15);
        x.open(0);
        x.put(0, 3, 1, 3, 15);
        Check.due("what is not committed", x.model(3, 1, 3), -15);
        Check.due("TABLE 12", x.model(12, 0, 300), 0);
        Check.due("TABLE 12, FIELD 301", x.model(12, 0, 301), BAD);
        Check.due("TABLE 12, ROW 1", x.model(12, 1, 0), BAD);
        x.crash(0);
        Check.due("DOWN", x.model(3, 1, 3), DOWN);
        Check.due("BAD ahead of DOWN", x.model(13, 0, 0), BAD);
    }

    private static void tolds() {
        Check.says("What = 0 COMMITS (when DOWN: as before crash()), 1 bytes of THE LOG, 2 bytes of THE TAPE, "
                + "3 whether it is DOWN (1, 0), 4 TRANSACTIONS");
        Yard x = with(row(11, 0, 5));
        set(x, row(11, 0, 6));
        x.feed(1, 2, 3, 4, 5);
        x.open(0);
        x.open(2);
        int[] due = {2, 22, 20, 0, 2, 0, NO};
        for (int what = 0; what < 7; what++) {
            Check.due("told(" + what + ")", x.told(what), due[what]);
        }
        x.crash(22);
        int[] down = {2, 0, 20, 1, 0, 0, NO};
        for (int what = 0; what < 7; what++) {
            Check.due("told(" + what + ") when DOWN", x.told(what), down[what]);
        }
        for (int what : new int[] {-1, 7, Integer.MIN_VALUE, Integer.MAX_VALUE}) {
            Check.due("told(" + what + ") when DOWN", x.told(what), BAD);
        }
        x.cut(20);
        x.reopen();
        int[] anew = {0, 0, 0, 0, 0, 0, NO};
        for (int what = 0; what < 7; what++) {
            Check.due("told(" + what + ") behind reopen()", x.told(what), anew[what]);
        }
        for (int what : new int[] {-1, 7, Integer.MIN_VALUE, Integer.MAX_VALUE}) {
            Check.due("told(" + what + ")", x.told(what), BAD);
        }
    }

    private static void faultIs(Yard x, int kind, int at) {
        Check.due("told(5)", x.told(5), kind);
        Check.due("told(6)", x.told(6), at);
    }

    private static void toldFaults() {
        Check.says("5 the kind of the FAULT of the TEXT that the latest commit() or undo() met");
        Yard x = new Yard();
        Check.due("a FAULT", Check.text(x, "let a = b;"), -447);
        faultIs(x, 3, 8);
        Check.due("a FAULT at byte 0", Check.text(x, "?"), -447);
        faultIs(x, 1, 0);
        Check.says("(of those that were not BAD, NO, DOWN");
        Check.due("NO", x.commit(0), NO);
        Check.due("BAD", x.commit(3), BAD);
        Check.due("BAD", x.undo(1), BAD);
        faultIs(x, 1, 0);
        Check.says("crash(), reopen() leave it");
        x.crash(0);
        faultIs(x, 1, 0);
        Check.due("DOWN", x.commit(0), DOWN);
        faultIs(x, 1, 0);
        x.reopen();
        faultIs(x, 1, 0);
        Check.says("0: it met none");
        x.open(0);
        Check.due("commit", x.commit(0), 1);
        faultIs(x, 0, NO);
        Check.text(x, "?");
        faultIs(x, 1, 0);
        Check.due("undo", x.undo(1), 2);
        faultIs(x, 0, NO);
        Check.says("0: it met none, because of a CLASH, a lesser ROW's FAULT, or FULL, too");
        Check.text(x, "?");
        x.open(1);
        x.get(1, 11, 0, 0);
        Check.tape(x, "?");
        x.write(1);
        set(x, row(11, 0, 5));
        Check.text(x, "?");
        faultIs(x, 1, 0);
        Check.due("a CLASH", x.commit(1), -238);
        faultIs(x, 0, NO);
        Check.says("a lesser ROW's FAULT");
        Check.text(x, "?");
        x.open(1);
        Check.tape(x, "?");
        x.write(1);
        x.put(1, 10, 6, 0, 1);
        x.put(1, 10, 6, 4, 64);
        Check.due("a FAULT of TASKS", x.commit(1), -437);
        faultIs(x, 0, NO);
        Check.text(x, "?");
        set(x, row(11, 0, 6));
        Check.text(x, "?");
        Check.due("an undo() with a CLASH", x.undo(3), -238);
        faultIs(x, 0, NO);
        Check.says("or FULL, too");
        x = almostFull();
        Check.text(x, "?");
        faultIs(x, 1, 0);
        Check.due("undo(22)", x.undo(22), FULL);
        faultIs(x, 0, NO);
        Check.text(x, "?");
        x.open(0);
        putPlates(x, 0, 26);
        Check.due("commit", x.commit(0), FULL);
        faultIs(x, 0, NO);
    }

    // ---- answers below 0

    private static void downBehindBad() {
        Check.says("DOWN (all but log(), reopen(), feed(), cut(), told() answer that then, behind BAD, "
                + "which is asked of the MODEL, COMMITS and rules as they were)");
        Yard x = new Yard();
        Check.text(x, "let a = 1; let b = 2; rule c = a = b; rule d = a = 1;");
        set(x, row(2, 0, 1, 0, 0, 0, 0, 0, 1), row(2, 15, 1, 1, 1, 0, 0, 0, 1), row(7, 0, 1, 0, 0, 0, 0, 0, 0, 0, 0, 0, 0, 0, 1),
                row(9, 0, 1, 0, 0, 0, 3));
        works(x);
        int bytes = x.told(1);
        Check.due("crash of all", x.crash(bytes), 0);
        int[] down = {x.open(0), x.open(2), x.put(0, 0, 0, 0, 500), x.get(0, 0, 0, 0), x.get(2, 12, 0, 300), x.write(0),
            x.commit(0), x.leave(2), x.undo(1), x.undo(2), x.model(12, 0, 300), x.crash(0), x.sea(0), x.sea(1), x.sea(32769),
            (int) x.rest(0), (int) x.rest(11), x.water(15, 15), x.liquid(15), x.rules(0), x.rules(1), x.verdict(0),
            x.verdict(1), x.steps(1), x.nest(0), x.nest(3), x.piece(0, 0), x.piece(0, 4), x.piece(Integer.MAX_VALUE, 0),
            x.sheet(5, 5), x.bars(), x.rod(8), x.lead(), x.way(0, 0), x.way(5, 2), x.step(0, 0), x.step(0, 2), x.step(0, 99),
            x.plan(), x.task(6, 1)};
        for (int i = 0; i < down.length; i++) {
            Check.due("call " + i, down[i], DOWN);
        }
        int[] bad = {x.open(3), x.open(-1), x.put(3, 0, 0, 0, 1), x.put(0, 0, 0, 0, 501), x.put(0, 12, 0, 0, 0),
            x.get(0, 0, 0, 8), x.get(-1, 0, 0, 0), x.write(3), x.commit(3), x.leave(-1), x.undo(0), x.undo(3),
            x.model(0, 0, 8), x.crash(1), x.crash(-1), x.sea(2), x.sea(3), x.sea(65536), x.sea(-1), (int) x.rest(12),
            (int) x.rest(-1), x.water(16, 0), x.water(0, 16), x.water(-1, 0), x.liquid(16), x.liquid(-1), x.rules(2),
            x.rules(-1), x.verdict(2), x.verdict(-1), x.steps(2), x.nest(4), x.nest(-1), x.piece(-1, 0), x.piece(0, 5),
            x.piece(0, -1), x.sheet(6, 0), x.sheet(0, 6), x.rod(9), x.rod(-1), x.way(6, 0), x.way(0, 3), x.step(6, 0),
            x.step(0, -1), x.task(7, 0), x.task(0, 2)};
        for (int i = 0; i < bad.length; i++) {
            Check.due("BAD call " + i, bad[i], BAD);
        }
        Check.due("arm(0)", x.arm(0), ShipYard.NONE);
        Check.due("along(0, 0)", x.along(0, 0), ShipYard.NONE);
        Check.due("along(3, 0)", x.along(3, 0), ShipYard.NONE);
        Check.due("let(0, 0)", x.let(0, 0), ShipYard.NONE);
        Check.due("log(0)", x.log(0), BAD);
        Check.due("told(0)", x.told(0), 2);
        Check.due("feed()", x.feed(1, 2, 3, 4, 5), 20);
        Check.due("cut(21)", x.cut(21), BAD);
        Check.due("cut(20)", x.cut(20), 0);
        Check.due("reopen()", x.reopen(), 0);
        Check.due("sea(1), a SPACE that is gone", x.sea(1), BAD);
        Check.due("verdict(0), a rule that is gone", x.verdict(0), BAD);
        Check.due("undo(1), a COMMIT that is gone", x.undo(1), BAD);
        Check.due("told(3)", x.told(3), 0);
        Yard y = new Yard();
        y.crash(0);
        for (int i = 1; i <= 60; i++) {
            Check.due("feed() when DOWN", y.feed(0, 0, 0, 0, 0), 20 * i);
        }
        Check.due("feed() of a full TAPE when DOWN", y.feed(0, 0, 0, 0, 0), FULL);
        Check.due("write() when DOWN", y.write(0), DOWN);
        Check.due("THE TAPE stays", y.told(2), 1200);
    }

    private static void notDown() {
        Check.says("The yard is there again");
        Yard x = with(row(11, 0, 5));
        x.crash(0);
        Check.due("reopen()", x.reopen(), 1);
        Check.due("told(3)", x.told(3), 0);
        Check.due("open()", x.open(0), 1);
        Check.due("get()", x.get(0, 11, 0, 0), 5);
        Check.due("model()", x.model(11, 0, 0), 5);
        Check.due("sea()", x.sea(0), 1);
        Check.due("nest()", x.nest(0), 0);
        Check.due("commit()", x.commit(0), 2);
        Check.due("crash()", x.crash(0), 16);
        Check.due("reopen()", x.reopen(), 2);
    }

    /** Works all out that there is. */
    private static void works(Yard x) {
        x.sea(0);
        x.nest(0);
        x.bars();
        x.lead();
        x.plan();
    }

    private static void notWorkedOut(Yard x) {
        Check.due("rest(0)", x.rest(0), NO);
        Check.due("water(0, 0)", x.water(0, 0), NO);
        Check.due("liquid(0)", x.liquid(0), NO);
        Check.due("arm(0)", x.arm(0), ShipYard.NONE);
        Check.due("along(0, 0)", x.along(0, 0), ShipYard.NONE);
        Check.due("along(1, 0)", x.along(1, 0), ShipYard.NONE);
        Check.due("along(2, 0)", x.along(2, 0), ShipYard.NONE);
        Check.due("piece(0, 0)", x.piece(0, 0), NO);
        Check.due("sheet(0, 0)", x.sheet(0, 0), NO);
        Check.due("rod(0)", x.rod(0), NO);
        Check.due("way(0, 0)", x.way(0, 0), NO);
        Check.due("step(0, 0)", x.step(0, 0), NO);
        Check.due("task(0, 0)", x.task(0, 0), NO);
    }

    private static void workedOut(String told, Yard x) {
        Check.due(told + ": rest(0)", x.rest(0), 0);
        Check.due(told + ": water(0, 0)", x.water(0, 0), 3200);
        Check.due(told + ": liquid(0)", x.liquid(0), 200000);
        Check.due(told + ": arm(0)", x.arm(0) == ShipYard.NONE ? 0 : 1, 1);
        Check.due(told + ": along(1, 0)", x.along(1, 0), 0);
        Check.due(told + ": piece(0, 0)", x.piece(0, 0), 7);
        Check.due(told + ": sheet(0, 0)", x.sheet(0, 0), 1);
        Check.due(told + ": rod(0)", x.rod(0), 0);
        Check.due(told + ": way(0, 0)", x.way(0, 0), 2);
        Check.due(told + ": step(0, 0)", x.step(0, 0), 0);
        Check.due(told + ": task(0, 0)", x.task(0, 0), 0);
    }

    /** A box that floats half way up, with a full tank of no weight to speak of in it, and one of all else. */
    private static Yard box() {
        Yard x = new Yard();
        x.open(0);
        for (int s = 0; s < 16; s++) {
            x.put(0, 1, s, 8, 100);
        }
        putAll(x, row(0, 0, 100, 100, 10), row(3, 0, 800, 0, 15, 0, 10), row(2, 0, 2, 0, 15, 0, 15, 0, 1, 16),
                row(4, 0, 256), row(7, 7, 1, 0, 0, 0, 0, 0, 0, 0, 0, 0, 0, 0, 1), row(9, 0, 1, 0, 0, 0, 1), row(10, 0, 1),
                row(11, 0, 5));
        // The WEIGHT gives way for what the LIQUID weighs: 64 times 256 of 1024 times 16.
        x.put(0, 3, 0, 0, 799);
        Check.due("commit", x.commit(0), 1);
        return x;
    }

    private static void keptTillTheNextCommit() {
        Check.says("All else is WORKED OUT of the MODEL as committed, and kept till the next COMMIT (or crash())");
        Yard x = box();
        notWorkedOut(x);
        Check.due("sea", x.sea(0), 0);
        works(x);
        workedOut("at once", x);
        x.open(0);
        x.put(0, 11, 0, 0, 6);
        workedOut("behind put()", x);
        x.open(1);
        x.get(1, 11, 0, 0);
        x.put(1, 3, 0, 1, 15);
        x.put(1, 3, 0, 2, 0);
        Check.due("a FAULT", x.commit(1), -333);
        workedOut("behind a FAULT", x);
        x.leave(0);
        workedOut("behind leave()", x);
        Check.due("BAD", x.sea(2), BAD);
        Check.due("BAD", x.nest(4), BAD);
        Check.due("BAD", x.crash(-1), BAD);
        Check.due("BAD", x.undo(2), BAD);
        Check.due("NO", x.reopen(), NO);
        workedOut("behind what is refused", x);
        Check.says("NO: it was not worked out since");
        x.open(0);
        Check.due("a COMMIT of nothing", x.commit(0), 2);
        notWorkedOut(x);
        works(x);
        workedOut("anew", x);
        Check.due("undo() makes a COMMIT", x.undo(2), 3);
        notWorkedOut(x);
        works(x);
        x.crash(0);
        x.reopen();
        notWorkedOut(x);
        works(x);
        workedOut("behind reopen()", x);
        x.open(1);
        x.open(2);
        x.put(1, 11, 8, 0, 1);
        x.get(2, 11, 8, 0);
        Check.due("commit", x.commit(1), 4);
        works(x);
        Check.due("a CLASH", x.commit(2), -246);
        workedOut("behind a CLASH", x);
    }

    private static void refusedChangesNothing() {
        Check.says("What is refused changes nothing");
        Yard x = almostFull();
        x.nest(0);
        x.open(0);
        putPlates(x, 0, 26);
        Check.due("FULL", x.commit(0), FULL);
        Check.due("undo(22)", x.undo(22), FULL);
        Check.due("undo(21)", x.undo(21), -247);
        Check.due("what is worked out is kept", x.sheet(0, 4), 1);
        Check.due("THE LOG", x.told(1), 39842);
        Check.due("COMMITS", x.told(0), 22);
        Check.due("open()", x.open(0), NO);
        Check.due("the TRANSACTION", x.leave(0), 3);
    }
}
