import java.util.Arrays;

/** A yard for ships: its model, the persons who change it, and all that is worked out of it. */
public final class ShipYard {
    public static final int BAD = -1, NO = -2, DOWN = -3, FULL = -4;
    public static final long NONE = Long.MIN_VALUE;

    private static final int YARD = 0, HULL = 1, SPACES = 2, WEIGHTS = 3, FILLS = 4, OPENINGS = 5, STEEL = 6,
            PLATES = 7, SOLIDS = 8, PIPES = 9, TASKS = 10, RODS = 11, RULES = 12, TABLES = 13;
    private static final int[] ROWS = {1, 16, 16, 24, 16, 8, 24, 8, 12, 6, 7, 9, 1};
    private static final int[] FIELDS = {8, 9, 8, 5, 2, 6, 5, 14, 7, 8, 5, 1, 301};
    private static final int[] FIRST_ROW = {0, 1, 17, 33, 57, 73, 81, 105, 113, 125, 131, 138, 147};
    private static final int[] FIRST_PLACE = {0, 8, 152, 280, 400, 432, 480, 600, 712, 796, 844, 879, 888};
    private static final int ALL_ROWS = 148, ALL_PLACES = 1189;

    /** Where the limits of a table's fields begin in LEAST and MOST; the rules' fields have none there. */
    private static final int[] FIRST_LIMIT = {0, 8, 17, 25, 30, 32, 38, 43, 57, 64, 72, 77, 78};
    private static final int[] LEAST = {
        1, 1, 1, 0, 1, 1, 1, 1,
        0, 0, 0, 0, 0, 0, 0, 0, 0,
        0, 0, 0, 0, 0, 0, 0, 0,
        0, 0, 0, -15, 0,
        0, 1,
        0, 0, 0, 0, -1, 0,
        0, 0, 0, 0, 0,
        0, 0, 0, 0, 0, 0, 0, 0, 0, 0, 0, 0, 0, 0,
        0, 0, 0, 0, 0, 0, 0,
        0, 0, 0, 0, 0, 0, 0, 0,
        0, 0, 0, 0, 0,
        0};
    private static final int[] MOST = {
        500, 500, 4000, 50, 64, 48, 6, 6,
        2000, 2000, 2000, 2000, 2000, 2000, 2000, 2000, 2000,
        2, 15, 15, 15, 15, 2000, 2000, 16,
        60000, 15, 15, 15, 2000,
        600000, 32,
        1, 15, 15, 2000, 15, 15,
        10000, 15, 15, 2000, 1000000000,
        16777215, 16777215, 16777215, 16777215, 16777215, 16777215,
        16777215, 16777215, 16777215, 16777215, 16777215, 16777215, 4, 1,
        1, 19, 19, 9, 9, 7, 7,
        1, 19, 9, 7, 19, 9, 7, 1,
        20, 6, 6, 40, 127,
        4000};

    private static final int PERSONS = 3, TAPE_BYTES = 1200, FED_BYTES = 20, CLASH = -100, FAULT = -300;

    /** The model as committed, as it would be, and as it was ahead of a commit that is undone. */
    private final Model kept, trial, past;
    private final Person[] persons;
    private final Log journal;
    private final int[] changedBy;
    private final byte[] tape;
    private int taped, commits, faultKind, faultByte;
    private boolean down;

    private final Grammar grammar;
    private Program program, spare;
    private final Sums sums;
    private final Sea waters;
    private final Sheets sheets;
    private final Pipes pipes;
    private final Shop shop;

    public ShipYard() {
        Model first = new Model();
        kept = first;
        trial = new Model();
        past = new Model();
        persons = new Person[PERSONS];
        for (int i = 0; i < PERSONS; i++) {
            persons[i] = new Person();
        }
        journal = new Log();
        changedBy = new int[ALL_ROWS];
        tape = new byte[TAPE_BYTES];
        grammar = new Grammar();
        program = new Program();
        spare = new Program();
        Sea sea = new Sea(first);
        Sheets nested = new Sheets();
        Pipes led = new Pipes();
        Shop work = new Shop();
        waters = sea;
        sheets = nested;
        pipes = led;
        shop = work;
        sums = new Sums(first, sea, nested, led, work);
    }

    // ---- persons

    public int open(int person) {
        if (!isPerson(person)) {
            return BAD;
        }
        if (down) {
            return DOWN;
        }
        if (persons[person].busy) {
            return NO;
        }
        persons[person].begin(commits);
        return commits;
    }

    public int put(int person, int table, int row, int field, int v) {
        if (!isPerson(person) || table == RULES || !isPlace(table, row, field) || !mayBe(table, field, v)) {
            return BAD;
        }
        if (down) {
            return DOWN;
        }
        if (!persons[person].busy) {
            return NO;
        }
        persons[person].set(placeOf(table, row, field), FIRST_ROW[table] + row, v);
        return 1;
    }

    public int get(int person, int table, int row, int field) {
        if (!isPerson(person) || !isPlace(table, row, field)) {
            return BAD;
        }
        if (down) {
            return DOWN;
        }
        if (!persons[person].busy) {
            return NO;
        }
        return persons[person].see(placeOf(table, row, field), FIRST_ROW[table] + row, kept);
    }

    public int feed(int a, int b, int c, int d, int e) {
        if (taped + FED_BYTES > TAPE_BYTES) {
            return FULL;
        }
        tapeInt(a);
        tapeInt(b);
        tapeInt(c);
        tapeInt(d);
        tapeInt(e);
        return taped;
    }

    private void tapeInt(int v) {
        for (int shift = 24; shift >= 0 && taped < TAPE_BYTES; shift -= 8) {
            tape[taped] = (byte) (v >> shift);
            taped++;
        }
    }

    public int cut(int n) {
        if (n < 0 || n > taped) {
            return BAD;
        }
        taped -= n;
        return taped;
    }

    public int write(int person) {
        if (!isPerson(person)) {
            return BAD;
        }
        if (down) {
            return DOWN;
        }
        if (!persons[person].busy) {
            return NO;
        }
        int bytes = taped;
        int row = FIRST_ROW[RULES];
        int first = FIRST_PLACE[RULES];
        persons[person].set(first, row, bytes);
        for (int i = 0; i < TAPE_BYTES / 4; i++) {
            persons[person].set(first + 1 + i, row, tapedInt(4 * i));
        }
        taped = 0;
        return bytes;
    }

    /** Four bytes of the tape from one on; 0 stands for those behind its end. */
    private int tapedInt(int from) {
        int v = 0;
        for (int i = from; i < from + 4; i++) {
            v = v << 8 | (i >= 0 && i < taped ? tape[i] & 255 : 0);
        }
        return v;
    }

    public int commit(int person) {
        if (!isPerson(person)) {
            return BAD;
        }
        if (down) {
            return DOWN;
        }
        Person p = persons[person];
        if (!p.busy) {
            return NO;
        }
        faultKind = 0;
        int clash = p.clash(changedBy);
        if (clash >= 0) {
            p.busy = false;
            return CLASH - clash;
        }
        trial.copy(kept);
        p.lay(trial);
        int answer = settle();
        if (answer != FULL) {
            p.busy = false;
        }
        return answer;
    }

    public int leave(int person) {
        if (!isPerson(person)) {
            return BAD;
        }
        if (down) {
            return DOWN;
        }
        if (!persons[person].busy) {
            return NO;
        }
        persons[person].busy = false;
        return persons[person].rowsWritten();
    }

    public int undo(int commit) {
        if (commit < 1 || commit > commits) {
            return BAD;
        }
        if (down) {
            return DOWN;
        }
        faultKind = 0;
        past.setLeast();
        int at = 0;
        for (int i = 1; i < commit && at >= 0; i++) {
            journal.play(at, past);
            at = journal.endOf(at);
        }
        trial.copy(kept);
        int n = journal.changesIn(at);
        for (int i = 0; i < n; i++) {
            int place = journal.placeIn(at, i);
            int row = rowOf(place);
            if (changedBy[row] > commit) {
                return CLASH - row;
            }
            trial.set(place, past.at(place));
        }
        return settle();
    }

    public int model(int table, int row, int field) {
        if (!isPlace(table, row, field)) {
            return BAD;
        }
        return down ? DOWN : kept.of(table, row, field);
    }

    public int log(int i) {
        return i < 0 || i >= journal.size ? BAD : journal.byteAt(i);
    }

    public int crash(int n) {
        if (n < 0 || n > journal.size) {
            return BAD;
        }
        if (down) {
            return DOWN;
        }
        journal.size -= n;
        for (int i = 0; i < PERSONS; i++) {
            persons[i].busy = false;
        }
        forgetWork();
        down = true;
        return journal.size;
    }

    public int reopen() {
        if (!down) {
            return NO;
        }
        kept.setLeast();
        Arrays.fill(changedBy, 0);
        commits = 0;
        int at = 0;
        for (int i = 0; i < Log.MOST_BYTES; i++) {
            int end = journal.endOf(at);
            if (end < 0) {
                break;
            }
            commits++;
            journal.play(at, kept);
            markChanges(at);
            at = end;
        }
        journal.size = at;
        grammar.parse(kept, program);
        down = false;
        return commits;
    }

    public int told(int what) {
        switch (what) {
            case 0: return commits;
            case 1: return journal.size;
            case 2: return taped;
            case 3: return down ? 1 : 0;
            case 4: return transactions();
            case 5: return faultKind;
            case 6: return faultKind == 0 ? NO : faultByte;
            default: return BAD;
        }
    }

    private int transactions() {
        int n = 0;
        for (int i = 0; i < PERSONS; i++) {
            n += persons[i].busy ? 1 : 0;
        }
        return n;
    }

    /** Makes the trial model the next commit, if all of it is right and the log has room. */
    private int settle() {
        int row = trial.firstFault();
        if (row >= 0) {
            return FAULT - row;
        }
        if (!grammar.parse(trial, spare)) {
            faultKind = grammar.fault;
            faultByte = grammar.faultByte;
            return FAULT - FIRST_ROW[RULES];
        }
        int at = journal.size;
        if (!journal.append(commits + 1, kept, trial)) {
            return FULL;
        }
        commits++;
        markChanges(at);
        kept.copy(trial);
        Program old = program;
        program = spare;
        spare = old;
        forgetWork();
        return commits;
    }

    private void markChanges(int record) {
        int n = journal.changesIn(record);
        for (int i = 0; i < n; i++) {
            changedBy[rowOf(journal.placeIn(record, i))] = commits;
        }
    }

    private void forgetWork() {
        waters.known = false;
        sheets.known = false;
        pipes.known = false;
        shop.barsKnown = false;
        shop.planKnown = false;
        sums.letsKnown = false;
    }

    private static boolean isPerson(int person) {
        return person >= 0 && person < PERSONS;
    }

    private static boolean isPlace(int table, int row, int field) {
        return table >= 0 && table < TABLES && row >= 0 && row < ROWS[table] && field >= 0 && field < FIELDS[table];
    }

    private static boolean mayBe(int table, int field, int v) {
        int i = FIRST_LIMIT[table] + field;
        return i < LEAST.length && v >= LEAST[i] && v <= MOST[i];
    }

    private static int placeOf(int table, int row, int field) {
        return FIRST_PLACE[table] + row * FIELDS[table] + field;
    }

    /** The row of a place; the first row stands for what is no place. */
    private static int rowOf(int place) {
        for (int table = TABLES - 1; table >= 0; table--) {
            if (place >= FIRST_PLACE[table] && place < ALL_PLACES) {
                return FIRST_ROW[table] + (place - FIRST_PLACE[table]) / FIELDS[table];
            }
        }
        return 0;
    }

    // ---- the ship

    public int sea(int spaces) {
        if (spaces < 0 || spaces >= 1 << ROWS[SPACES] || (spaces & ~kept.kinds()) != 0) {
            return BAD;
        }
        if (down) {
            return DOWN;
        }
        sums.letsKnown = false;
        return waters.come(spaces);
    }

    public long rest(int what) {
        if (what < 0 || what > 11) {
            return BAD;
        }
        if (down) {
            return DOWN;
        }
        if (!waters.known || what > 4 && !waters.rests()) {
            return NO;
        }
        return waters.told[what];
    }

    public int water(int slice, int column) {
        if (slice < 0 || slice > 15 || column < 0 || column > 15) {
            return BAD;
        }
        if (down) {
            return DOWN;
        }
        return waters.rests() ? waters.pointsIn(slice, column) : NO;
    }

    public int liquid(int space) {
        if (space < 0 || space > 15) {
            return BAD;
        }
        if (down) {
            return DOWN;
        }
        return waters.rests() && waters.hasLiquid(space) ? waters.liquidLevel(space) : NO;
    }

    public long arm(int c) {
        if (down || !waters.rests() || c < -Sea.STEEPEST || c > Sea.STEEPEST) {
            return NONE;
        }
        return waters.lever(c);
    }

    public long along(int what, int k) {
        if (down || what < 0 || what > 5 || k < 0 || k > (what == 1 || what == 2 ? 16 : 15)) {
            return NONE;
        }
        if (what > 2) {
            return kept.steelOf(k, what - 3);
        }
        return waters.rests() ? waters.alongShip(what, k) : NONE;
    }

    // ---- rules

    public int rules(int what) {
        if (what < 0 || what > 1) {
            return BAD;
        }
        if (down) {
            return DOWN;
        }
        return what == 0 ? program.rules : program.lets;
    }

    public int verdict(int rule) {
        if (rule < 0 || rule >= program.rules) {
            return BAD;
        }
        if (down) {
            return DOWN;
        }
        sums.workOutLets(program);
        return sums.judge(program, rule);
    }

    public int steps(int rule) {
        if (rule < 0 || rule >= program.rules) {
            return BAD;
        }
        if (down) {
            return DOWN;
        }
        sums.workOutLets(program);
        sums.judge(program, rule);
        return sums.taken;
    }

    public long let(int k, int which) {
        if (down || k < 0 || k >= program.lets || which < 0 || which > 1) {
            return NONE;
        }
        sums.workOutLets(program);
        return sums.letPart(k, which);
    }

    // ---- plates, rods, pipes, work

    public int nest(int gap) {
        if (gap < 0 || gap > 3) {
            return BAD;
        }
        if (down) {
            return DOWN;
        }
        sums.letsKnown = false;
        sheets.fill(kept, gap);
        return sheets.placed;
    }

    public int piece(int k, int what) {
        if (what < 0 || what > 4 || k < 0) {
            return BAD;
        }
        if (down) {
            return DOWN;
        }
        if (!sheets.known) {
            return NO;
        }
        return k >= sheets.pieces ? BAD : sheets.pieceTold(k, what);
    }

    public int sheet(int s, int what) {
        if (s < 0 || s >= Sheets.SHEETS || what < 0 || what > 5) {
            return BAD;
        }
        if (down) {
            return DOWN;
        }
        return sheets.known ? sheets.sheetTold(s, what) : NO;
    }

    public int bars() {
        if (down) {
            return DOWN;
        }
        sums.letsKnown = false;
        shop.cutRods(kept);
        return shop.barCount >= 0 ? shop.barCount : NO;
    }

    public int rod(int k) {
        if (k < 0 || k >= ROWS[RODS]) {
            return BAD;
        }
        if (down) {
            return DOWN;
        }
        return shop.barsKnown && shop.barCount >= 0 && kept.of(RODS, k, 0) > 0 ? shop.barOf[k] : NO;
    }

    public int lead() {
        if (down) {
            return DOWN;
        }
        sums.letsKnown = false;
        pipes.leadAll(kept);
        return pipes.led;
    }

    public int way(int pipe, int what) {
        if (pipe < 0 || pipe >= ROWS[PIPES] || what < 0 || what > 2) {
            return BAD;
        }
        if (down) {
            return DOWN;
        }
        if (!pipes.hasWay(pipe)) {
            return NO;
        }
        return what == 0 ? pipes.cost[pipe] : what == 1 ? pipes.stepCount[pipe] : pipes.bends[pipe];
    }

    public int step(int pipe, int k) {
        if (pipe < 0 || pipe >= ROWS[PIPES] || k < 0) {
            return BAD;
        }
        if (down) {
            return DOWN;
        }
        if (!pipes.hasWay(pipe)) {
            return NO;
        }
        return k >= pipes.stepCount[pipe] ? BAD : pipes.ways[pipe * Pipes.CELLS + k];
    }

    public int plan() {
        if (down) {
            return DOWN;
        }
        sums.letsKnown = false;
        shop.planWork(kept);
        return shop.planEnd >= 0 ? shop.planEnd : NO;
    }

    public int task(int t, int what) {
        if (t < 0 || t >= ROWS[TASKS] || what < 0 || what > 1) {
            return BAD;
        }
        if (down) {
            return DOWN;
        }
        if (!shop.isPlanned(t)) {
            return NO;
        }
        return what == 0 ? shop.begins[t] : shop.turnOf[t];
    }

    /** All fields of all rows, and which rows are right. */
    private static final class Model {
        final int[] values = new int[ALL_PLACES];

        Model() {
            setLeast();
        }

        void setLeast() {
            Arrays.fill(values, 0);
            for (int table = 0; table < RULES; table++) {
                for (int i = 0; i < ROWS[table] * FIELDS[table]; i++) {
                    values[FIRST_PLACE[table] + i] = Math.max(0, LEAST[FIRST_LIMIT[table] + i % FIELDS[table]]);
                }
            }
        }

        void copy(Model other) {
            System.arraycopy(other.values, 0, values, 0, ALL_PLACES);
        }

        int at(int place) {
            return place >= 0 && place < ALL_PLACES ? values[place] : 0;
        }

        void set(int place, int v) {
            if (place >= 0 && place < ALL_PLACES) {
                values[place] = v;
            }
        }

        int of(int table, int row, int field) {
            int place = FIRST_PLACE[table] + row * FIELDS[table] + field;
            return place >= 0 && place < ALL_PLACES ? values[place] : 0;
        }

        int textBytes() {
            return of(RULES, 0, 0);
        }

        int textByte(int i) {
            return of(RULES, 0, 1 + i / 4) >> 24 - 8 * (i % 4) & 255;
        }

        int kindOf(int space) {
            return space >= 0 && space < ROWS[SPACES] ? of(SPACES, space, 0) : 0;
        }

        /** The spaces with a kind, as bits. */
        int kinds() {
            int bits = 0;
            for (int p = 0; p < ROWS[SPACES]; p++) {
                bits |= kindOf(p) > 0 ? 1 << p : 0;
            }
            return bits;
        }

        int bottom(int slice, int column) {
            return of(HULL, slice, column < 8 ? 7 - column : column - 8);
        }

        int deck(int slice) {
            return of(HULL, slice, 8);
        }

        /** What a space's columns have between its heights, in units of height. */
        int room(int p) {
            int units = 0;
            for (int s = of(SPACES, p, 1); s <= of(SPACES, p, 2); s++) {
                int roof = Math.min(deck(s), of(SPACES, p, 6));
                for (int k = of(SPACES, p, 3); k <= of(SPACES, p, 4); k++) {
                    units += Math.max(0, roof - Math.max(bottom(s, k), of(SPACES, p, 5)));
                }
            }
            return units;
        }

        /** Of a slice's steel: 0 the area, 1 the first, 2 the second moment. */
        long steelOf(int slice, int power) {
            long sum = 0;
            for (int i = 0; i < ROWS[STEEL]; i++) {
                long area = of(STEEL, i, 0);
                if (area == 0 || slice < of(STEEL, i, 1) || slice > of(STEEL, i, 2)) {
                    continue;
                }
                long height = of(STEEL, i, 3);
                sum += power == 0 ? area : power == 1 ? area * height : area * height * height + of(STEEL, i, 4);
            }
            return sum;
        }

        /** The first row that is not right, the text of the rules not looked at; -1: none. */
        int firstFault() {
            for (int table = SPACES; table < RODS; table++) {
                for (int row = 0; row < ROWS[table]; row++) {
                    if (!isRight(table, row)) {
                        return FIRST_ROW[table] + row;
                    }
                }
            }
            return -1;
        }

        private boolean isRight(int table, int row) {
            switch (table) {
                case SPACES: return spaceRight(row);
                case WEIGHTS: return of(WEIGHTS, row, 0) == 0 || inOrder(WEIGHTS, row, 1);
                case FILLS: return fillRight(row);
                case OPENINGS: return openingRight(row);
                case STEEL: return of(STEEL, row, 0) == 0 || inOrder(STEEL, row, 1);
                case PLATES: return plateRight(row);
                case SOLIDS: return of(SOLIDS, row, 0) == 0
                        || inOrder(SOLIDS, row, 1) && inOrder(SOLIDS, row, 3) && inOrder(SOLIDS, row, 5);
                case TASKS: return taskRight(row);
                default: return true;
            }
        }

        private boolean inOrder(int table, int row, int from) {
            return of(table, row, from) <= of(table, row, from + 1);
        }

        private boolean spaceRight(int p) {
            if (kindOf(p) == 0) {
                return true;
            }
            if (!inOrder(SPACES, p, 1) || !inOrder(SPACES, p, 3) || of(SPACES, p, 5) >= of(SPACES, p, 6)) {
                return false;
            }
            for (int q = 0; q < p; q++) {
                if (kindOf(q) > 0 && meet(p, q, 1, 0) && meet(p, q, 3, 0) && meet(p, q, 5, 1)) {
                    return false;
                }
            }
            return true;
        }

        /** Whether two spaces' ranges have as much as that in common, beside an end. */
        private boolean meet(int p, int q, int from, int more) {
            int low = Math.max(of(SPACES, p, from), of(SPACES, q, from));
            int high = Math.min(of(SPACES, p, from + 1), of(SPACES, q, from + 1));
            return high - low >= more;
        }

        private boolean fillRight(int p) {
            int units = of(FILLS, p, 0);
            return units == 0 || kindOf(p) == 2 && units <= room(p);
        }

        private boolean openingRight(int i) {
            if (of(OPENINGS, i, 0) == 0) {
                return true;
            }
            int one = of(OPENINGS, i, 4);
            int other = of(OPENINGS, i, 5);
            return kindOf(other) > 0 && (one == -1 || one != other && kindOf(one) > 0);
        }

        private boolean plateRight(int plate) {
            if (of(PLATES, plate, 12) == 0) {
                return true;
            }
            int bits = 0;
            for (int j = 0; j < 12; j++) {
                bits |= of(PLATES, plate, j);
            }
            return of(PLATES, plate, 0) != 0 && (bits & 1) != 0;
        }

        /** A row without days is no task: its bits lead nowhere. */
        private boolean taskRight(int t) {
            int there = tasksWithDays();
            int ahead = of(TASKS, t, 4);
            if ((there >> t & 1) == 0) {
                return true;
            }
            if ((ahead & ~there) != 0) {
                return false;
            }
            for (int i = 0; i < ROWS[TASKS]; i++) {
                for (int u = 0; u < ROWS[TASKS]; u++) {
                    ahead |= (ahead & there & 1 << u) != 0 ? of(TASKS, u, 4) : 0;
                }
            }
            return (ahead >> t & 1) == 0;
        }

        /** The tasks with days, as bits. */
        private int tasksWithDays() {
            int bits = 0;
            for (int t = 0; t < ROWS[TASKS]; t++) {
                bits |= of(TASKS, t, 0) > 0 ? 1 << t : 0;
            }
            return bits;
        }
    }

    /** A person's transaction. */
    private static final class Person {
        boolean busy;
        private int begun;
        private final int[] values = new int[ALL_PLACES];
        private final byte[] isSet = new byte[ALL_PLACES];
        private final byte[] rowSeen = new byte[ALL_ROWS];
        private final byte[] rowSet = new byte[ALL_ROWS];

        void begin(int commits) {
            busy = true;
            begun = commits;
            Arrays.fill(isSet, (byte) 0);
            Arrays.fill(rowSeen, (byte) 0);
            Arrays.fill(rowSet, (byte) 0);
        }

        void set(int place, int row, int v) {
            if (place < 0 || place >= ALL_PLACES || row < 0 || row >= ALL_ROWS) {
                return;
            }
            values[place] = v;
            isSet[place] = 1;
            rowSet[row] = 1;
        }

        int see(int place, int row, Model kept) {
            if (place < 0 || place >= ALL_PLACES || row < 0 || row >= ALL_ROWS) {
                return 0;
            }
            rowSeen[row] = 1;
            return isSet[place] != 0 ? values[place] : kept.at(place);
        }

        /** The first row of its own that a commit changed since it was begun; -1: none. */
        int clash(int[] changedBy) {
            for (int row = 0; row < ALL_ROWS && row < changedBy.length; row++) {
                if (rowSeen[row] + rowSet[row] > 0 && changedBy[row] > begun) {
                    return row;
                }
            }
            return -1;
        }

        void lay(Model over) {
            for (int place = 0; place < ALL_PLACES; place++) {
                if (isSet[place] != 0) {
                    over.set(place, values[place]);
                }
            }
        }

        int rowsWritten() {
            int n = 0;
            for (int row = 0; row < ALL_ROWS; row++) {
                n += rowSet[row];
            }
            return n;
        }
    }

    /** The records of the commits, as bytes. */
    private static final class Log {
        static final int MOST_BYTES = 40000;
        private static final int HEAD = 4, CHANGE = 6, MARK = 90;

        final byte[] bytes = new byte[MOST_BYTES];
        int size;

        int byteAt(int i) {
            return i >= 0 && i < size ? bytes[i] & 255 : 0;
        }

        /** False, and nothing is changed, if there is no room. */
        boolean append(int number, Model before, Model after) {
            int n = 0;
            for (int place = 0; place < ALL_PLACES; place++) {
                n += before.at(place) != after.at(place) ? 1 : 0;
            }
            if (size + HEAD + n * CHANGE + 1 > MOST_BYTES) {
                return false;
            }
            addBytes(number, 2);
            addBytes(n, 2);
            for (int place = 0; place < ALL_PLACES; place++) {
                if (before.at(place) != after.at(place)) {
                    addBytes(place, 2);
                    addBytes(after.at(place), 4);
                }
            }
            addBytes(MARK, 1);
            return true;
        }

        private void addBytes(int v, int n) {
            for (int i = n - 1; i >= 0 && size < MOST_BYTES; i--) {
                bytes[size] = (byte) (v >> 8 * i);
                size++;
            }
        }

        private int number(int at, int n) {
            int v = 0;
            for (int i = at; i < at + n; i++) {
                v = v << 8 | byteAt(i);
            }
            return v;
        }

        int changesIn(int record) {
            return endOf(record) < 0 ? 0 : number(record + 2, 2);
        }

        int placeIn(int record, int i) {
            return number(record + HEAD + i * CHANGE, 2);
        }

        /** Where the record ends that begins there; -1: it is not whole. */
        int endOf(int record) {
            if (record < 0 || record + HEAD > size) {
                return -1;
            }
            int end = record + HEAD + number(record + 2, 2) * CHANGE + 1;
            return end <= size ? end : -1;
        }

        void play(int record, Model over) {
            int n = changesIn(record);
            for (int i = 0; i < n; i++) {
                int at = record + HEAD + i * CHANGE;
                over.set(number(at, 2), number(at + 2, 4));
            }
        }
    }

    /** The ship's columns and what lies in them below a plane: the water outside, or a tank's liquid. */
    private static final class Hull {
        static final int LOWEST = -100000, HIGHEST = 200000, POINTS = 64, WATER = 16;
        /** Block 0 is the whole hull, block p + 1 is space p. A set of blocks is told as bits. */
        static final int BLOCKS = 17;
        private static final int MOST_TRIES = 66;

        final int[] low = new int[256];
        final int[] high = new int[256];
        private final int[] sliceFrom = new int[BLOCKS];
        private final int[] sliceTo = new int[BLOCKS];
        private final int[] columnFrom = new int[BLOCKS];
        private final int[] columnTo = new int[BLOCKS];
        private final int[] heightFrom = new int[BLOCKS];
        private final int[] heightTo = new int[BLOCKS];
        /** What a point of each block adds; an open space takes away what the hull counts too much. */
        final int[] bits = new int[BLOCKS];
        /** The latest level of each block's set: a good first guess for the next one. */
        private final int[] near = new int[BLOCKS];
        long amount, rise, momentX, momentY, momentZ;

        void build(Model m) {
            for (int s = 0; s < 16; s++) {
                for (int k = 0; k < 16; k++) {
                    low[16 * s + k] = POINTS * m.bottom(s, k);
                    high[16 * s + k] = POINTS * m.deck(s);
                }
            }
            sliceTo[0] = 15;
            columnTo[0] = 15;
            heightTo[0] = HIGHEST;
            bits[0] = WATER;
            for (int p = 0; p < BLOCKS - 1; p++) {
                sliceFrom[p + 1] = m.of(SPACES, p, 1);
                sliceTo[p + 1] = m.of(SPACES, p, 2);
                columnFrom[p + 1] = m.of(SPACES, p, 3);
                columnTo[p + 1] = m.of(SPACES, p, 4);
                heightFrom[p + 1] = POINTS * m.of(SPACES, p, 5);
                heightTo[p + 1] = POINTS * m.of(SPACES, p, 6);
            }
        }

        /** The greatest level at which a set has no more than that. */
        int level(int set, int block, long most, int b, int c) {
            int below = LOWEST;
            int above = HIGHEST + 1;
            int at = near[block];
            for (int i = 0; i < MOST_TRIES && above - below > 1; i++) {
                measure(set, at, b, c);
                if (amount > most) {
                    above = at;
                } else {
                    below = at;
                    above = amount + rise > most ? at + 1 : above;
                }
                // Each third try halves, so that the tries are enough where the slopes mislead.
                long next = rise > 0 && i % 3 < 2 ? at + (most - amount) / rise : below + (above - below) / 2;
                at = next <= below ? below + 1 : next >= above ? above - 1 : (int) next;
            }
            near[block] = below;
            return below;
        }

        /** Sets amount, and rise: what one point more of the level would add. */
        private void measure(int set, int a, int b, int c) {
            amount = 0;
            rise = 0;
            int[] bottoms = low;
            int[] decks = high;
            for (int block = 0; block < BLOCKS; block++) {
                if ((set >> block & 1) == 0) {
                    continue;
                }
                int floor = heightFrom[block];
                int roof = heightTo[block];
                int first = columnFrom[block];
                int last = columnTo[block];
                long points = 0;
                int rising = 0;
                for (int s = sliceFrom[block]; s <= sliceTo[block]; s++) {
                    int plane = a + b * (2 * s - 15) + c * (2 * first - 15);
                    for (int i = 16 * s + first; i <= 16 * s + last; i++) {
                        int lower = bottoms[i];
                        lower = lower > floor ? lower : floor;
                        if (plane >= lower) {
                            int upper = decks[i];
                            upper = upper < roof ? upper : roof;
                            if (plane < upper) {
                                points += plane - lower;
                                rising++;
                            } else if (lower < upper) {
                                points += upper - lower;
                            }
                        }
                        plane += 2 * c;
                    }
                }
                amount += points * bits[block];
                rise += (long) rising * bits[block];
            }
        }

        /** Sets amount and the moments of what a set has in some slices. */
        void weigh(int set, int firstSlice, int lastSlice, int a, int b, int c) {
            amount = 0;
            momentX = 0;
            momentY = 0;
            momentZ = 0;
            for (int block = 0; block < BLOCKS; block++) {
                if ((set >> block & 1) == 0) {
                    continue;
                }
                int from = sliceFrom[block] > firstSlice ? sliceFrom[block] : firstSlice;
                for (int s = from; s <= sliceTo[block] && s <= lastSlice; s++) {
                    long sum = 0;
                    long sumY = 0;
                    long sumZ = 0;
                    for (int k = columnFrom[block]; k <= columnTo[block]; k++) {
                        int plane = a + b * (2 * s - 15) + c * (2 * k - 15);
                        int i = 16 * s + k;
                        int lower = low[i] > heightFrom[block] ? low[i] : heightFrom[block];
                        int upper = high[i] < heightTo[block] ? high[i] : heightTo[block];
                        upper = plane < upper ? plane : upper;
                        if (lower < upper) {
                            long points = upper - lower;
                            sum += points;
                            sumY += points * (2 * k - 15);
                            sumZ += points * (lower + upper);
                        }
                    }
                    amount += sum * bits[block];
                    momentX += sum * bits[block] * (2 * s - 15);
                    momentY += sumY * bits[block];
                    momentZ += sumZ * bits[block];
                }
            }
        }
    }

    /** How the ship floats, heels and is flooded. */
    private static final class Sea {
        static final int STEEPEST = 2048, RESTS = 0, SINKS = 1, NO_REST = 2;
        /** What told holds, by the numbers that rest() has for it. */
        static final int ANSWER = 0, ROUNDS = 1, OPEN = 2, WEIGHT = 3, ALL = 4, A = 5, B = 6, C = 7, AFLOAT = 8;
        private static final int APART = 9, X = 0, Y = 1, Z = 2;
        private static final int NOWHERE = 1 << 20, UNIT_BITS = 1024, HALVINGS = 13;

        private final Model model;
        private final Hull hull;
        boolean known;
        final long[] told = new long[12];
        private int open, liquidBits, turn;
        private long weight, afloat;
        /** What a moment counts in T, and in U. */
        private final long[] scale = new long[2];
        /** The moments of the weights alone; and the water's less all weight's, by the latest tilt. */
        private final long[] fixed = new long[3];
        private final long[] apart = new long[3];
        /** Of each fill: its points, what each of them weighs, and its level at rest. */
        private final long[] points = new long[16];
        private final long[] heavy = new long[16];
        private final int[] liquids = new int[16];
        private final long[] loads = new long[16];
        /** For each c the trim and the lever, if they were worked out in this turn: rules ask for the same ones often. */
        private final int[] trims = new int[2 * STEEPEST + 1];
        private final long[] levers = new long[2 * STEEPEST + 1];
        private final int[] leverTurn = new int[2 * STEEPEST + 1];

        Sea(Model model) {
            this.model = model;
            hull = new Hull();
        }

        boolean rests() {
            return known && told[ANSWER] == RESTS;
        }

        boolean hasLiquid(int p) {
            return (liquidBits >> p & 1) != 0;
        }

        int liquidLevel(int p) {
            return p >= 0 && p < liquids.length ? liquids[p] : 0;
        }

        int pointsIn(int slice, int column) {
            int i = 16 * slice + column;
            if (i < 0 || i >= hull.low.length) {
                return 0;
            }
            return Math.max(0, Math.min(plane(slice, column), hull.high[i]) - hull.low[i]);
        }

        private int plane(int slice, int column) {
            return (int) (told[A] + told[B] * (2 * slice - 15) + told[C] * (2 * column - 15));
        }

        /** 0 the load of slice k, 1 the force, 2 the bend at k. */
        long alongShip(int what, int k) {
            if (what == 0) {
                return k >= 0 && k < loads.length ? loads[k] : 0;
            }
            long force = 0;
            long bend = 0;
            for (int i = 0; i < k && i < loads.length; i++) {
                bend += 2 * force + loads[i];
                force += loads[i];
            }
            return what == 1 ? force : bend;
        }

        int come(int spaces) {
            hull.build(model);
            open = spaces;
            int answer = RESTS;
            int rounds = 0;
            int more = 1;
            for (int i = 0; i <= 16 && more != 0; i++) {
                load();
                int c = weight < told[ALL] ? heel() : NOWHERE;
                answer = weight >= told[ALL] ? SINKS : c == NOWHERE ? NO_REST : RESTS;
                more = 0;
                if (answer == RESTS) {
                    layDown(trims[c + STEEPEST], c);
                    more = flooded();
                    open |= more;
                    rounds += more != 0 ? 1 : 0;
                }
            }
            told[ANSWER] = answer;
            told[ROUNDS] = rounds;
            told[OPEN] = open;
            told[WEIGHT] = weight;
            if (answer == RESTS) {
                loadSlices();
            }
            known = true;
            return answer;
        }

        /** Works out what doesn't depend on the plane. */
        private void load() {
            turn++;
            weight = 0;
            Arrays.fill(fixed, 0L);
            for (int i = 0; i < ROWS[WEIGHTS]; i++) {
                long units = UNIT_BITS * (long) model.of(WEIGHTS, i, 0);
                for (int s = model.of(WEIGHTS, i, 1); units > 0 && s <= model.of(WEIGHTS, i, 2); s++) {
                    weight += units;
                    fixed[X] += units * (2 * s - 15);
                    fixed[Y] += units * model.of(WEIGHTS, i, 3);
                    fixed[Z] += units * 2 * Hull.POINTS * model.of(WEIGHTS, i, 4);
                }
            }
            liquidBits = 0;
            for (int p = 0; p < 16; p++) {
                boolean isOpen = (open >> p & 1) != 0;
                hull.bits[p + 1] = isOpen ? model.of(SPACES, p, 7) - Hull.WATER : 1;
                points[p] = (long) Hull.POINTS * model.of(FILLS, p, 0);
                heavy[p] = model.of(FILLS, p, 1);
                if (!isOpen && points[p] > 0) {
                    liquidBits |= 1 << p;
                    weight += points[p] * heavy[p];
                }
            }
            for (int axis = X; axis <= Y; axis++) {
                long size = model.of(YARD, 0, axis);
                scale[axis] = 2048 * size * size;
            }
            hull.weigh(seaSet(), 0, 15, Hull.HIGHEST, 0, 0);
            told[ALL] = hull.amount;
        }

        private int seaSet() {
            return 1 | open << 1;
        }

        private int heel() {
            int low = -STEEPEST;
            int high = STEEPEST;
            long atLow = lever(low);
            long atHigh = lever(high);
            if (atLow == NONE || atHigh == NONE || atLow > 0 || atHigh <= 0) {
                return NOWHERE;
            }
            for (int i = 0; i < HALVINGS && high - low > 1; i++) {
                int middle = low + (high - low) / 2;
                long u = lever(middle);
                if (u == NONE) {
                    return NOWHERE;
                }
                if (u <= 0) {
                    low = middle;
                } else {
                    high = middle;
                }
            }
            return low;
        }

        /** U(TRIM(c), c); NONE: there is no TRIM(c). */
        long lever(int c) {
            int i = c + STEEPEST;
            if (i < 0 || i >= levers.length) {
                return NONE;
            }
            if (leverTurn[i] == turn) {
                return levers[i];
            }
            leverTurn[i] = turn;
            levers[i] = NONE;
            int low = -STEEPEST;
            int high = STEEPEST;
            tilt(low, c);
            if (turning(X, low) > 0) {
                return NONE;
            }
            tilt(high, c);
            if (turning(X, high) <= 0) {
                return NONE;
            }
            for (int k = 0; k < HALVINGS && high - low > 1; k++) {
                int middle = low + (high - low) / 2;
                tilt(middle, c);
                if (turning(X, middle) <= 0) {
                    low = middle;
                } else {
                    high = middle;
                }
            }
            tilt(low, c);
            trims[i] = low;
            levers[i] = turning(Y, c);
            return levers[i];
        }

        /** T or U by the latest tilt. */
        private long turning(int axis, int slope) {
            return scale[axis] * apart[axis] + slope * apart[Z];
        }

        /** Lets the ship down to its level by a plane's slopes, and answers that level. */
        private int tilt(int b, int c) {
            int level = hull.level(seaSet(), 0, weight, b, c);
            hull.weigh(seaSet(), 0, 15, level, b, c);
            afloat = hull.amount;
            apart[X] = hull.momentX - fixed[X];
            apart[Y] = hull.momentY - fixed[Y];
            apart[Z] = hull.momentZ - fixed[Z];
            for (int p = 0; p < 16; p++) {
                if (hasLiquid(p)) {
                    int set = 1 << p + 1;
                    hull.weigh(set, 0, 15, hull.level(set, p + 1, points[p], b, c), b, c);
                    apart[X] -= hull.momentX * heavy[p];
                    apart[Y] -= hull.momentY * heavy[p];
                    apart[Z] -= hull.momentZ * heavy[p];
                }
            }
            return level;
        }

        private void layDown(int b, int c) {
            told[A] = tilt(b, c);
            told[B] = b;
            told[C] = c;
            told[AFLOAT] = afloat;
            for (int axis = X; axis <= Z; axis++) {
                told[APART + axis] = apart[axis];
            }
            for (int p = 0; p < 16; p++) {
                if (hasLiquid(p)) {
                    liquids[p] = hull.level(1 << p + 1, p + 1, points[p], b, c);
                }
            }
        }

        /** The spaces that become open by the openings below the plane, as bits. */
        private int flooded() {
            int more = 0;
            for (int i = 0; i < ROWS[OPENINGS]; i++) {
                int plane = plane(model.of(OPENINGS, i, 1), model.of(OPENINGS, i, 2));
                if (model.of(OPENINGS, i, 0) == 0 || Hull.POINTS * model.of(OPENINGS, i, 3) >= plane) {
                    continue;
                }
                int one = model.of(OPENINGS, i, 4);
                int other = 1 << model.of(OPENINGS, i, 5);
                if (one < 0 || (open >> one & 1) != 0) {
                    more |= other;
                }
                if (one >= 0 && (open & other) != 0) {
                    more |= 1 << one;
                }
            }
            return more & ~open;
        }

        private void loadSlices() {
            int b = (int) told[B];
            int c = (int) told[C];
            for (int s = 0; s < 16; s++) {
                hull.weigh(seaSet(), s, s, (int) told[A], b, c);
                long load = -hull.amount;
                for (int p = 0; p < 16; p++) {
                    if (hasLiquid(p)) {
                        hull.weigh(1 << p + 1, s, s, liquids[p], b, c);
                        load += hull.amount * heavy[p];
                    }
                }
                for (int i = 0; i < ROWS[WEIGHTS]; i++) {
                    if (s >= model.of(WEIGHTS, i, 1) && s <= model.of(WEIGHTS, i, 2)) {
                        load += UNIT_BITS * (long) model.of(WEIGHTS, i, 0);
                    }
                }
                loads[s] = load;
            }
        }
    }

    /** What a text of rules says: nodes in rows, told by their numbers; -1 is none. */
    private static final class Program {
        static final int MOST_LETS = 40, MOST_TABLES = 8, MOST_RULES = 24, MOST_POINTS = 12, MOST_NODES = TAPE_BYTES + 1;
        /** Kinds of nodes. A CHAIN has its first part in one, then operator, other, and its next link in third. */
        static final int NUMBER = 0, COUNTER = 1, LET = 2, TABLE = 3, WORD = 4, WORD_OF = 5, MINUS = 6, CHAIN = 7,
                IF = 8, SUM = 9, MAX = 10, MIN = 11, OR = 12, AND = 13, NOT = 14, COMPARE = 15;

        final int[] kind = new int[MOST_NODES];
        final int[] one = new int[MOST_NODES];
        final int[] other = new int[MOST_NODES];
        final int[] third = new int[MOST_NODES];
        /** A number, an operator, or which counter, let, table or word it is. */
        final int[] value = new int[MOST_NODES];
        final int[] letNode = new int[MOST_LETS];
        final int[] ruleNode = new int[MOST_RULES];
        final int[] pointX = new int[MOST_TABLES * MOST_POINTS];
        final int[] pointY = new int[MOST_TABLES * MOST_POINTS];
        final int[] points = new int[MOST_TABLES];
        int nodes, lets, tables, rules;

        void clear() {
            nodes = 0;
            lets = 0;
            tables = 0;
            rules = 0;
        }

        /** A new node; each takes a token of its own, so the text's limit keeps them few enough. */
        int add(int newKind, int newValue, int newOne, int newOther, int newThird) {
            if (nodes >= MOST_NODES) {
                return -1;
            }
            kind[nodes] = newKind;
            value[nodes] = newValue;
            one[nodes] = newOne;
            other[nodes] = newOther;
            third[nodes] = newThird;
            nodes++;
            return nodes - 1;
        }
    }

    /** Reads a text of rules: its tokens, then its statements. */
    private static final class Grammar {
        /** The yard's words: the plain ones, and those that want ( ), which are numbered on from these. */
        private static final String PLAIN_WORDS = "level trim heel water weight rounds length breadth placed left bars led end ";
        private static final String WORDS_OF = "draught force bend lever area axis second room fill price start ";
        private static final int PLAIN = 13, OF = 11;
        private static final String KEYWORDS = "let table rule if sum max min and or not ";
        private static final int KEYS = 10, LET = 0, TABLE = 1, RULE = 2, IF = 3, SUM = 4, MIN = 6, AND = 7, OR = 8, NOT = 9;
        private static final String SIGNS = "+-*/()[],;:=#<>";
        /** Kinds of tokens beside the signs, which stand for themselves. */
        private static final int END = 0, WORD = 'a', NUMBER = '0', AT_MOST = 'l', AT_LEAST = 'g';
        private static final int MOST_LETTERS = 8, MOST_DIGITS = 9, MOST_DEPTH = 24, LETTERS = 27;
        private static final int NO_TOKEN = 1, MISPLACED = 2, UNKNOWN = 3, TAKEN = 4, TOO_MANY = 5, NOT_ABOVE = 6;
        private static final int MOST_NAMES = Program.MOST_LETS + Program.MOST_TABLES + Program.MOST_RULES;

        int fault, faultByte;
        private Program program;
        private final int[] kinds = new int[TAPE_BYTES + 1];
        private final int[] bytes = new int[TAPE_BYTES + 1];
        /** A number's value, or a word packed into one number. */
        private final long[] values = new long[TAPE_BYTES + 1];
        private int tokens, now;
        private final long[] keys, plainWords, wordsOf;
        /** What let, table and rule told, and the node kind that it stands for (a rule's: NOT, as no number does). */
        private final long[] names = new long[MOST_NAMES];
        private final int[] nameKinds = new int[MOST_NAMES];
        private final int[] nameNumbers = new int[MOST_NAMES];
        private int named;
        private final long[] counters = new long[MOST_DEPTH];
        private int counting;

        Grammar() {
            keys = packed(KEYWORDS, KEYS);
            plainWords = packed(PLAIN_WORDS, PLAIN);
            wordsOf = packed(WORDS_OF, OF);
        }

        /** The words of a list, a blank behind each, packed into one number each. */
        private static long[] packed(String list, int count) {
            long[] all = new long[count];
            long word = 0;
            int to = 0;
            for (int i = 0; i < list.length() && to < count; i++) {
                if (list.charAt(i) == ' ') {
                    all[to] = word;
                    to++;
                    word = 0;
                } else {
                    word = word * LETTERS + list.charAt(i) - 'a' + 1;
                }
            }
            return all;
        }

        /** Whether the model's text has no fault; then it is in the program. */
        boolean parse(Model m, Program into) {
            program = into;
            into.clear();
            fault = 0;
            now = 0;
            named = 0;
            counting = 0;
            readTokens(m);
            for (int i = 0; i < tokens && fault == 0 && kinds[now] != END; i++) {
                if (isNowKey(LET)) {
                    letStatement();
                } else if (isNowKey(TABLE)) {
                    tableStatement();
                } else if (isNowKey(RULE)) {
                    ruleStatement();
                } else {
                    fail(MISPLACED, now);
                }
            }
            return fault == 0;
        }

        // ---- tokens

        private void readTokens(Model m) {
            int size = Math.min(m.textBytes(), TAPE_BYTES);
            tokens = 0;
            int at = 0;
            for (int i = 0; i < size && at < size && fault == 0; i++) {
                int first = m.textByte(at);
                at += first == ' ' || first == '\n' ? 1 : token(m, at, size);
            }
            kinds[tokens] = END;
            bytes[tokens] = size;
        }

        /** Reads the token that begins there: how many bytes it has. */
        private int token(Model m, int at, int size) {
            int first = m.textByte(at);
            boolean isWord = isLetter(first);
            boolean isNumber = isDigit(first);
            int length = 1;
            int kind = first;
            long value = 0;
            if (isWord || isNumber) {
                kind = isWord ? WORD : NUMBER;
                length = 0;
                for (int i = at; i < size && (isWord ? isLetter(m.textByte(i)) : isDigit(m.textByte(i))); i++) {
                    value = isWord ? value * LETTERS + m.textByte(i) - 'a' + 1 : value * 10 + m.textByte(i) - '0';
                    length++;
                }
            } else if ((first == '<' || first == '>') && at + 1 < size && m.textByte(at + 1) == '=') {
                kind = first == '<' ? AT_MOST : AT_LEAST;
                length = 2;
            }
            boolean isSign = !isWord && !isNumber;
            if (isSign && SIGNS.indexOf((char) first) < 0 || isWord && length > MOST_LETTERS
                    || isNumber && length > MOST_DIGITS) {
                fault = NO_TOKEN;
                faultByte = at;
                return length;
            }
            kinds[tokens] = kind;
            bytes[tokens] = at;
            values[tokens] = value;
            tokens++;
            return length;
        }

        private static boolean isLetter(int b) {
            return b >= 'a' && b <= 'z';
        }

        private static boolean isDigit(int b) {
            return b >= '0' && b <= '9';
        }

        /** Keeps the first fault alone, since all that comes later stands more to the right. */
        private int fail(int kind, int token) {
            if (fault == 0) {
                fault = kind;
                faultByte = bytes[token];
            }
            return -1;
        }

        private boolean isNow(int kind) {
            return fault == 0 && kinds[now] == kind;
        }

        private boolean isNowKey(int key) {
            return isNow(WORD) && values[now] == keys[key];
        }

        private int keyNow() {
            return find(keys, KEYS, values[now]);
        }

        /** Steps over a token that must stand here. */
        private boolean expect(int kind) {
            if (!isNow(kind)) {
                fail(MISPLACED, now);
                return false;
            }
            now++;
            return true;
        }

        // ---- statements

        /** Steps over what all statements begin with: the name that is told. */
        private long heading(int count, int most) {
            if (count >= most) {
                fail(TOO_MANY, now);
                return 0;
            }
            now++;
            long name = newName();
            expect('=');
            return name;
        }

        private void letStatement() {
            long name = heading(program.lets, Program.MOST_LETS);
            int node = sum(1);
            if (expect(';')) {
                program.letNode[program.lets] = node;
                tell(name, Program.LET, program.lets);
                program.lets++;
            }
        }

        private void ruleStatement() {
            long name = heading(program.rules, Program.MOST_RULES);
            int node = condition(1);
            if (expect(';')) {
                program.ruleNode[program.rules] = node;
                tell(name, Program.NOT, program.rules);
                program.rules++;
            }
        }

        private void tableStatement() {
            long name = heading(program.tables, Program.MOST_TABLES);
            if (fault != 0) {
                return;
            }
            program.points[program.tables] = 0;
            point();
            for (int i = 0; i < tokens && isNow(','); i++) {
                now++;
                point();
            }
            if (expect(';')) {
                tell(name, Program.TABLE, program.tables);
                program.tables++;
            }
        }

        private void point() {
            int count = program.points[program.tables];
            if (count >= Program.MOST_POINTS) {
                fail(TOO_MANY, now);
                return;
            }
            int at = program.tables * Program.MOST_POINTS + count;
            int first = now;
            int x = signedNumber();
            if (fault == 0 && count > 0 && x <= program.pointX[at - 1]) {
                fail(NOT_ABOVE, first);
            }
            expect(':');
            int y = signedNumber();
            if (fault == 0) {
                program.pointX[at] = x;
                program.pointY[at] = y;
                program.points[program.tables]++;
            }
        }

        private int signedNumber() {
            boolean below = isNow('-');
            now += below ? 1 : 0;
            int v = isNow(NUMBER) ? (int) values[now] : 0;
            expect(NUMBER);
            return below ? -v : v;
        }

        private void tell(long name, int kind, int number) {
            if (named < MOST_NAMES) {
                names[named] = name;
                nameKinds[named] = kind;
                nameNumbers[named] = number;
                named++;
            }
        }

        /** Steps over a word that is told here, if it may be. */
        private long newName() {
            if (!isNow(WORD)) {
                fail(MISPLACED, now);
                return 0;
            }
            long name = values[now];
            if (keyNow() >= 0 || find(plainWords, PLAIN, name) >= 0 || find(wordsOf, OF, name) >= 0
                    || find(names, named, name) >= 0 || find(counters, counting, name) >= 0) {
                fail(TAKEN, now);
                return 0;
            }
            now++;
            return name;
        }

        private static int find(long[] among, int count, long name) {
            for (int i = 0; i < count && i < among.length; i++) {
                if (among[i] == name) {
                    return i;
                }
            }
            return -1;
        }

        // ---- conditions; a depth is that of the factors and nots to be read, the outermost being 1

        private int condition(int depth) {
            int node = bothOf(depth);
            int last = -1;
            for (int i = 0; i < tokens && isNowKey(OR); i++) {
                now++;
                int link = program.add(Program.OR, 0, node, bothOf(depth), -1);
                node = join(node, last, link);
                last = link;
            }
            return node;
        }

        private int bothOf(int depth) {
            int node = negation(depth);
            int last = -1;
            for (int i = 0; i < tokens && isNowKey(AND); i++) {
                now++;
                int link = program.add(Program.AND, 0, node, negation(depth), -1);
                node = join(node, last, link);
                last = link;
            }
            return node;
        }

        /** Hangs a link behind the last one of its chain; the first link is the chain's own node. */
        private int join(int node, int last, int link) {
            if (last < 0) {
                return link;
            }
            program.third[last] = link;
            return node;
        }

        private int negation(int depth) {
            if (depth > MOST_DEPTH) {
                return fail(TOO_MANY, now);
            }
            if (isNowKey(NOT)) {
                now++;
                return program.add(Program.NOT, 0, negation(depth + 1), -1, -1);
            }
            if (isNow('[')) {
                now++;
                int node = condition(depth + 1);
                expect(']');
                return node;
            }
            int left = sum(depth + 1);
            int how = kinds[now];
            if (how != '=' && how != '#' && how != '<' && how != '>' && how != AT_MOST && how != AT_LEAST) {
                return fail(MISPLACED, now);
            }
            now += fault == 0 ? 1 : 0;
            return program.add(Program.COMPARE, how, left, sum(depth + 1), -1);
        }

        // ---- sums

        private int sum(int depth) {
            int node = product(depth);
            int last = -1;
            for (int i = 0; i < tokens && (isNow('+') || isNow('-')); i++) {
                int how = kinds[now];
                now++;
                int link = program.add(Program.CHAIN, how, node, product(depth), -1);
                node = join(node, last, link);
                last = link;
            }
            return node;
        }

        private int product(int depth) {
            int node = factor(depth);
            int last = -1;
            for (int i = 0; i < tokens && (isNow('*') || isNow('/')); i++) {
                int how = kinds[now];
                now++;
                int link = program.add(Program.CHAIN, how, node, factor(depth), -1);
                node = join(node, last, link);
                last = link;
            }
            return node;
        }

        private int factor(int depth) {
            if (depth > MOST_DEPTH) {
                return fail(TOO_MANY, now);
            }
            if (isNow('-')) {
                now++;
                return program.add(Program.MINUS, 0, factor(depth + 1), -1, -1);
            }
            if (isNow(NUMBER)) {
                now++;
                return program.add(Program.NUMBER, (int) values[now - 1], -1, -1, -1);
            }
            if (isNow('(')) {
                return inBrackets(depth);
            }
            if (!isNow(WORD)) {
                return fail(MISPLACED, now);
            }
            int key = keyNow();
            if (key == IF) {
                return choice(depth);
            }
            if (key >= SUM && key <= MIN) {
                return series(depth, Program.SUM + key - SUM);
            }
            return key >= 0 ? fail(MISPLACED, now) : meaning(depth);
        }

        private int inBrackets(int depth) {
            expect('(');
            int node = sum(depth + 1);
            expect(')');
            return node;
        }

        private int choice(int depth) {
            now++;
            expect('(');
            int when = condition(depth + 1);
            expect(',');
            int then = sum(depth + 1);
            expect(',');
            int otherwise = sum(depth + 1);
            expect(')');
            return program.add(Program.IF, 0, when, then, otherwise);
        }

        private int series(int depth, int kind) {
            now++;
            expect('(');
            long name = newName();
            expect(',');
            int from = sum(depth + 1);
            expect(',');
            int to = sum(depth + 1);
            expect(',');
            int slot = counting;
            if (fault != 0 || slot >= MOST_DEPTH) {
                return fail(TOO_MANY, now);
            }
            counters[slot] = name;
            counting++;
            int each = sum(depth + 1);
            counting = slot;
            expect(')');
            return program.add(kind, slot, from, to, each);
        }

        /** A word of a factor: what it stands for. */
        private int meaning(int depth) {
            long name = values[now];
            int slot = find(counters, counting, name);
            int told = find(names, named, name);
            int plain = find(plainWords, PLAIN, name);
            int word = find(wordsOf, OF, name);
            if (slot >= 0) {
                now++;
                return program.add(Program.COUNTER, slot, -1, -1, -1);
            }
            if (told >= 0 && nameKinds[told] == Program.LET) {
                now++;
                return program.add(Program.LET, nameNumbers[told], -1, -1, -1);
            }
            if (told >= 0 && nameKinds[told] == Program.TABLE) {
                now++;
                return program.add(Program.TABLE, nameNumbers[told], inBrackets(depth), -1, -1);
            }
            if (plain >= 0) {
                now++;
                return program.add(Program.WORD, plain, -1, -1, -1);
            }
            if (word >= 0) {
                now++;
                return program.add(Program.WORD_OF, PLAIN + word, inBrackets(depth), -1, -1);
            }
            return fail(UNKNOWN, now);
        }
    }

    /** Works out rules and lets. The latest number is top by below; below is 0 where it is undone. */
    private static final class Sums {
        static final int FALSE = 0, TRUE = 1, OPEN = 2;
        private static final int MOST_STEPS = 10000, MOST_ROUNDS = 64, MOST_DEPTH = 150, GCD_ROUNDS = 100, BITS = 1024;
        private static final long MOST_SIZE = 1000000000000000000L, BEYOND = Long.MIN_VALUE;
        /** The yard's words, numbered as Grammar lists them. */
        private static final int LEVEL = 0, TRIM = 1, HEEL = 2, WATER = 3, WEIGHT = 4, LENGTH = 6, BREADTH = 7, PLACED = 8,
                LEFT = 9, BARS = 10, LED = 11, END = 12, DRAUGHT = 13, FORCE = 14, BEND = 15, LEVER = 16, AREA = 17,
                AXIS = 18, SECOND = 19, ROOM = 20, FILL = 21, PRICE = 22;

        private final Model model;
        private final Sea sea;
        private final Sheets sheets;
        private final Pipes pipes;
        private final Shop shop;
        private Program program;
        private long top, below;
        int taken;
        private final long[] counters = new long[Grammar.MOST_DEPTH];
        /** All lets are worked out ahead of what needs them, so that none is entered from within another one. */
        boolean letsKnown;
        private final long[] letTop = new long[Program.MOST_LETS];
        private final long[] letBelow = new long[Program.MOST_LETS];
        private final int[] letSteps = new int[Program.MOST_LETS];

        Sums(Model model, Sea sea, Sheets sheets, Pipes pipes, Shop shop) {
            this.model = model;
            this.sea = sea;
            this.sheets = sheets;
            this.pipes = pipes;
            this.shop = shop;
        }

        /** The lets must have been worked out. */
        int judge(Program p, int rule) {
            taken = 0;
            int got = rule >= 0 && rule < Program.MOST_RULES ? truth(p.ruleNode[rule], 0) : OPEN;
            if (isOver()) {
                taken = MOST_STEPS + 1;
                return OPEN;
            }
            return got;
        }

        /** The lets must have been worked out. */
        long letPart(int k, int which) {
            if (k < 0 || k >= Program.MOST_LETS || letBelow[k] == 0 || letSteps[k] > MOST_STEPS) {
                return NONE;
            }
            return which == 0 ? letTop[k] : letBelow[k];
        }

        void workOutLets(Program p) {
            program = p;
            for (int k = 0; k < p.lets && k < Program.MOST_LETS && !letsKnown; k++) {
                taken = 0;
                number(p.letNode[k], 0);
                letTop[k] = top;
                letBelow[k] = below;
                letSteps[k] = Math.min(taken, MOST_STEPS + 1);
            }
            letsKnown = true;
        }

        private boolean isOver() {
            return taken > MOST_STEPS;
        }

        // ---- conditions

        private int truth(int node, int depth) {
            if (node < 0 || node >= Program.MOST_NODES || depth > MOST_DEPTH || isOver()) {
                return OPEN;
            }
            switch (program.kind[node]) {
                case Program.OR: return chainTruth(node, depth, TRUE);
                case Program.AND: return chainTruth(node, depth, FALSE);
                case Program.NOT:
                    int got = truth(program.one[node], depth + 1);
                    taken++;
                    return got == OPEN ? OPEN : TRUE - got;
                case Program.COMPARE: return comparison(node, depth);
                default: return OPEN;
            }
        }

        /** Of several: what decides if one is it, else open if one is, else the opposite. */
        private int chainTruth(int node, int depth, int decides) {
            int got = truth(program.one[node], depth + 1);
            int link = node;
            for (int i = 0; i < Program.MOST_NODES && link >= 0; i++) {
                int next = truth(program.other[link], depth + 1);
                taken++;
                got = got == decides || next == decides ? decides : got == OPEN ? OPEN : next;
                link = program.third[link];
            }
            return got;
        }

        private int comparison(int node, int depth) {
            number(program.one[node], depth + 1);
            long leftTop = top;
            long leftBelow = below;
            number(program.other[node], depth + 1);
            taken++;
            int order = compare(leftTop, leftBelow, top, below);
            if (order == OPEN) {
                return OPEN;
            }
            boolean holds;
            switch (program.value[node]) {
                case '=': holds = order == 0; break;
                case '#': holds = order != 0; break;
                case '<': holds = order < 0; break;
                case '>': holds = order > 0; break;
                case Grammar.AT_MOST: holds = order <= 0; break;
                default: holds = order >= 0; break;
            }
            return holds ? TRUE : FALSE;
        }

        // ---- numbers

        private void number(int node, int depth) {
            undone();
            if (node < 0 || node >= Program.MOST_NODES || depth > MOST_DEPTH || isOver()) {
                return;
            }
            int value = program.value[node];
            switch (program.kind[node]) {
                case Program.NUMBER: taken++; set(value, 1); break;
                case Program.COUNTER: taken++; set(counters[value], 1); break;
                case Program.LET: letWord(value); break;
                case Program.TABLE:
                    number(program.one[node], depth + 1);
                    taken++;
                    tableAt(value);
                    break;
                case Program.WORD: taken++; word(value); break;
                case Program.WORD_OF:
                    number(program.one[node], depth + 1);
                    taken++;
                    wordOf(value);
                    break;
                case Program.MINUS:
                    number(program.one[node], depth + 1);
                    taken++;
                    top = -top;
                    break;
                case Program.CHAIN: chain(node, depth); break;
                case Program.IF: choice(node, depth); break;
                default: series(node, depth); break;
            }
        }

        private void letWord(int k) {
            taken += 1 + letSteps[k];
            top = letTop[k];
            below = letBelow[k];
        }

        private void chain(int node, int depth) {
            number(program.one[node], depth + 1);
            int link = node;
            for (int i = 0; i < Program.MOST_NODES && link >= 0; i++) {
                long leftTop = top;
                long leftBelow = below;
                number(program.other[link], depth + 1);
                taken++;
                act(program.value[link], leftTop, leftBelow, top, below);
                link = program.third[link];
            }
        }

        private void choice(int node, int depth) {
            taken++;
            int when = truth(program.one[node], depth + 1);
            undone();
            if (when != OPEN) {
                number(when == TRUE ? program.other[node] : program.third[node], depth + 1);
            }
        }

        private void series(int node, int depth) {
            taken++;
            number(program.one[node], depth + 1);
            long from = top;
            boolean whole = below == 1;
            number(program.other[node], depth + 1);
            long to = top;
            whole = whole && below == 1;
            undone();
            if (!whole || to - from >= MOST_ROUNDS) {
                return;
            }
            int kind = program.kind[node];
            long soFar = 0;
            long soFarBelow = kind == Program.SUM ? 1 : 0;
            for (int i = 0; i < MOST_ROUNDS && i <= to - from && !isOver(); i++) {
                counters[program.value[node]] = from + i;
                number(program.third[node], depth + 1);
                if (kind == Program.SUM) {
                    act('+', soFar, soFarBelow, top, below);
                } else if (i > 0) {
                    keepBetter(kind == Program.MAX ? 1 : -1, soFar, soFarBelow);
                }
                soFar = top;
                soFarBelow = below;
            }
            top = soFar;
            below = soFarBelow;
        }

        /** Keeps of the latest number and the one so far the one that lies more that way. */
        private void keepBetter(int way, long soFar, long soFarBelow) {
            int order = compare(top, below, soFar, soFarBelow);
            if (order == OPEN) {
                undone();
            } else if (order != way) {
                top = soFar;
                below = soFarBelow;
            }
        }

        private void tableAt(int table) {
            long x = top;
            long xBelow = below;
            int first = table * Program.MOST_POINTS;
            int count = program.points[table];
            for (int i = first; i < first + count; i++) {
                int order = compare(x, xBelow, program.pointX[i], 1);
                if (order == OPEN) {
                    undone();
                    return;
                }
                if (order < 0 && i > first) {
                    between(i, x, xBelow);
                    return;
                }
                set(program.pointY[i], 1);
                if (order <= 0) {
                    return;
                }
            }
        }

        /** Along the line from the point ahead of that one. */
        private void between(int i, long x, long xBelow) {
            act('-', x, xBelow, program.pointX[i - 1], 1);
            act('*', top, below, program.pointY[i] - program.pointY[i - 1], 1);
            act('/', top, below, program.pointX[i] - program.pointX[i - 1], 1);
            act('+', top, below, program.pointY[i - 1], 1);
        }

        // ---- the yard's words; set() leaves a number undone that has 0 below

        private void word(int word) {
            switch (word) {
                case LENGTH: set(model.of(YARD, 0, 0), 1); break;
                case BREADTH: set(model.of(YARD, 0, 1), 1); break;
                case PLACED: set(sheets.placed, sheets.known ? 1 : 0); break;
                case LEFT: set(sheets.pieces - sheets.placed, sheets.known ? 1 : 0); break;
                case BARS: set(shop.barCount, shop.barsKnown && shop.barCount >= 0 ? 1 : 0); break;
                case LED: set(pipes.led, pipes.known ? 1 : 0); break;
                case END: set(shop.planEnd, shop.planKnown && shop.planEnd >= 0 ? 1 : 0); break;
                default: wordOfRest(word); break;
            }
        }

        private void wordOfRest(int word) {
            undone();
            if (!sea.rests()) {
                return;
            }
            switch (word) {
                case LEVEL: set(sea.told[Sea.A], Hull.POINTS); break;
                case TRIM: set(sea.told[Sea.B], Hull.POINTS); break;
                case HEEL: set(sea.told[Sea.C], Hull.POINTS); break;
                case WATER: set(sea.told[Sea.AFLOAT], BITS); break;
                case WEIGHT: set(sea.told[Sea.WEIGHT], BITS); break;
                default: set(sea.told[Sea.ROUNDS], 1); break;
            }
        }

        private void wordOf(int word) {
            long k = top;
            boolean whole = below == 1;
            undone();
            if (!whole || k < -Sea.STEEPEST || k > Sea.STEEPEST) {
                return;
            }
            int i = (int) k;
            boolean isSlice = i >= 0 && i < 16;
            boolean isSpace = model.kindOf(i) > 0;
            long lever = word == LEVER && sea.rests() ? sea.lever(i) : NONE;
            switch (word) {
                case DRAUGHT: draught(i); break;
                case FORCE: alongShip(1, i); break;
                case BEND: alongShip(2, i); break;
                case LEVER: set(lever, lever == NONE ? 0 : 1); break;
                case AREA: set(model.steelOf(i, 0), isSlice ? 1 : 0); break;
                case AXIS: set(model.steelOf(i, 1), isSlice ? model.steelOf(i, 0) : 0); break;
                case SECOND: second(i); break;
                case ROOM: set(isSpace ? model.room(i) : 0, isSpace ? 1 : 0); break;
                case FILL: set(isSpace ? model.of(FILLS, i, 0) : 0, isSpace ? 1 : 0); break;
                case PRICE: set(pipes.costOf(i), pipes.hasWay(i) ? 1 : 0); break;
                default: set(shop.beginOf(i), shop.isPlanned(i) ? 1 : 0); break;
            }
        }

        private void draught(int s) {
            if (sea.rests() && s >= 0 && s < 16) {
                set(sea.told[Sea.A] + sea.told[Sea.B] * (2 * s - 15), Hull.POINTS);
            }
        }

        private void alongShip(int what, int k) {
            if (sea.rests() && k >= 0 && k <= 16) {
                set(sea.alongShip(what, k), BITS);
            }
        }

        private void second(int s) {
            if (s >= 0 && s < 16) {
                long first = model.steelOf(s, 1);
                act('*', first, 1, first, 1);
                act('/', top, below, model.steelOf(s, 0), 1);
                act('-', model.steelOf(s, 2), 1, top, below);
            }
        }

        // ---- fractions

        private void undone() {
            top = 0;
            below = 0;
        }

        /** Sets the latest number, in lowest terms; undone, if a part is beyond or nothing is below. */
        private void set(long above, long under) {
            undone();
            if (isBeyond(above) || isBeyond(under) || under == 0) {
                return;
            }
            long x = Math.abs(above);
            long y = Math.abs(under);
            for (int i = 0; i < GCD_ROUNDS && y != 0; i++) {
                long rest = x % y;
                x = y;
                y = rest;
            }
            if (x == 0) {
                return;
            }
            top = under < 0 ? -above / x : above / x;
            below = Math.abs(under) / x;
        }

        private static boolean isBeyond(long v) {
            return v > MOST_SIZE || v < -MOST_SIZE;
        }

        /** A product, or what is beyond. */
        private static long times(long x, long y) {
            if (isBeyond(x) || isBeyond(y)) {
                return BEYOND;
            }
            if (x != 0 && Math.abs(y) > MOST_SIZE / Math.abs(x)) {
                return BEYOND;
            }
            return x * y;
        }

        private void act(int how, long a, long b, long c, long d) {
            undone();
            if (b == 0 || d == 0) {
                return;
            }
            if (how == '*') {
                set(times(a, c), times(b, d));
                return;
            }
            long x = times(a, d);
            long y = times(b, c);
            if (x == BEYOND || y == BEYOND) {
                return;
            }
            if (how == '/') {
                set(x, y);
            } else {
                set(how == '+' ? x + y : x - y, times(b, d));
            }
        }

        /** Below 0, 0 or 1 as the first one is less, the same or more; OPEN. */
        private static int compare(long a, long b, long c, long d) {
            if (b == 0 || d == 0) {
                return OPEN;
            }
            long x = times(a, d);
            long y = times(c, b);
            return x == BEYOND || y == BEYOND ? OPEN : Long.compare(x, y);
        }
    }

    /** Plates nested on sheets. */
    private static final class Sheets {
        static final int SHEETS = 6;
        private static final int PLATE_COUNT = 8, MOST_PIECES = 32, MOST_X = 64, MOST_Y = 48, CELLS = MOST_X * MOST_Y;
        private static final int TURNS = 4, MOST_ROWS = 24, PLATE_ROWS = 12, PLATE_BITS = 24;

        boolean known;
        int pieces, placed;
        private int width, height, gap, restCount, greatestRest;
        private final int[] plateOf = new int[MOST_PIECES];
        /** A piece's sheet; -1: it is left. */
        private final int[] sheetOf = new int[MOST_PIECES];
        private final int[] xOf = new int[MOST_PIECES];
        private final int[] yOf = new int[MOST_PIECES];
        private final int[] turnOf = new int[MOST_PIECES];
        /** Cells that no further piece may have, a row of bits for each y of each sheet. */
        private final long[] barred = new long[SHEETS * MOST_Y];
        /** The piece that has a cell, and 1 more; 0: none. */
        private final byte[] owner = new byte[SHEETS * CELLS];
        /** The plate at hand, as rows of bits, by turns. */
        private final long[] shape = new long[TURNS * MOST_ROWS];
        private final int[] wide = new int[TURNS];
        private final int[] tall = new int[TURNS];
        private final byte[] seen = new byte[CELLS];
        private final int[] stack = new int[CELLS];

        void fill(Model m, int newGap) {
            gap = newGap;
            width = m.of(YARD, 0, 4);
            height = m.of(YARD, 0, 5);
            pieces = 0;
            placed = 0;
            Arrays.fill(barred, 0L);
            Arrays.fill(owner, (byte) 0);
            int done = 0;
            for (int i = 0; i < PLATE_COUNT; i++) {
                int plate = largest(m, done);
                if (plate >= 0) {
                    done |= 1 << plate;
                    shapePlate(m, plate);
                    placeAll(m, plate);
                }
            }
            known = true;
        }

        /** The wanted plate with most cells that is not done; -1: none. */
        private static int largest(Model m, int done) {
            int best = -1;
            int most = 0;
            for (int plate = 0; plate < PLATE_COUNT; plate++) {
                int cells = 0;
                for (int j = 0; j < PLATE_ROWS; j++) {
                    cells += Integer.bitCount(m.of(PLATES, plate, j));
                }
                if ((done >> plate & 1) == 0 && m.of(PLATES, plate, 12) > 0 && cells > most) {
                    best = plate;
                    most = cells;
                }
            }
            return best;
        }

        private void shapePlate(Model m, int plate) {
            int w = 0;
            int h = 0;
            for (int j = 0; j < PLATE_ROWS; j++) {
                int row = m.of(PLATES, plate, j);
                h = row != 0 ? j : h;
                for (int i = w; i < PLATE_BITS; i++) {
                    w = (row >> i & 1) != 0 ? i : w;
                }
            }
            Arrays.fill(shape, 0L);
            for (int j = 0; j <= h; j++) {
                for (int i = 0; i <= w && i < PLATE_BITS; i++) {
                    if ((m.of(PLATES, plate, j) >> i & 1) != 0) {
                        shape[j] |= 1L << i;
                        shape[MOST_ROWS + i] |= 1L << h - j;
                        shape[2 * MOST_ROWS + h - j] |= 1L << w - i;
                        shape[3 * MOST_ROWS + w - i] |= 1L << j;
                    }
                }
            }
            for (int turn = 0; turn < TURNS; turn++) {
                wide[turn] = turn % 2 == 0 ? w + 1 : h + 1;
                tall[turn] = turn % 2 == 0 ? h + 1 : w + 1;
            }
        }

        /** The further pieces of a plate begin in the row of the one before: what was barred ahead of it stays so. */
        private void placeAll(Model m, int plate) {
            int turns = m.of(PLATES, plate, 13) == 1 ? TURNS : 1;
            int row = 0;
            for (int i = 0; i < m.of(PLATES, plate, 12) && pieces < MOST_PIECES; i++) {
                int k = pieces;
                plateOf[k] = plate;
                sheetOf[k] = -1;
                pieces++;
                for (; row < SHEETS * MOST_Y; row++) {
                    if (placeInRow(k, row / MOST_Y, row % MOST_Y, turns)) {
                        placed++;
                        break;
                    }
                }
            }
        }

        private boolean placeInRow(int k, int sheet, int y, int turns) {
            for (int x = 0; x < width && y < height; x++) {
                for (int turn = 0; turn < turns; turn++) {
                    if (fits(sheet, x, y, turn)) {
                        sheetOf[k] = sheet;
                        xOf[k] = x;
                        yOf[k] = y;
                        turnOf[k] = turn;
                        lay(k);
                        return true;
                    }
                }
            }
            return false;
        }

        private boolean fits(int sheet, int x, int y, int turn) {
            if (x + wide[turn] > width || y + tall[turn] > height) {
                return false;
            }
            int at = sheet * MOST_Y + y;
            int from = turn * MOST_ROWS;
            for (int j = 0; j < tall[turn]; j++) {
                if ((shape[from + j] << x & barred[at + j]) != 0) {
                    return false;
                }
            }
            return true;
        }

        private void lay(int k) {
            int first = sheetOf[k] * MOST_Y;
            for (int j = 0; j < tall[turnOf[k]]; j++) {
                long row = shape[turnOf[k] * MOST_ROWS + j] << xOf[k];
                int y = yOf[k] + j;
                for (int x = 0; x < width; x++) {
                    if ((row >>> x & 1) != 0) {
                        owner[(first + y) * MOST_X + x] = (byte) (k + 1);
                    }
                }
                long near = row;
                for (int i = 1; i <= gap; i++) {
                    near |= row << i | row >>> i;
                }
                for (int v = Math.max(0, y - gap); v <= Math.min(MOST_Y - 1, y + gap); v++) {
                    barred[first + v] |= near;
                }
            }
        }

        int pieceTold(int k, int what) {
            if (k < 0 || k >= MOST_PIECES) {
                return BAD;
            }
            if (what == 0) {
                return plateOf[k];
            }
            if (sheetOf[k] < 0) {
                return NO;
            }
            return what == 1 ? sheetOf[k] : what == 2 ? xOf[k] : what == 3 ? yOf[k] : turnOf[k];
        }

        int sheetTold(int s, int what) {
            switch (what) {
                case 0: return piecesOn(s);
                case 1: return cellsOn(s);
                case 2: return usedRows(s);
                case 3: return edgesOn(s);
                case 4: findRests(s); return restCount;
                default: findRests(s); return greatestRest;
            }
        }

        private int piecesOn(int s) {
            int n = 0;
            for (int k = 0; k < pieces; k++) {
                n += sheetOf[k] == s ? 1 : 0;
            }
            return n;
        }

        /** The owner of a cell; 0 beyond the sheet's ends. */
        private int ownerAt(int s, int x, int y) {
            return x >= 0 && x < width && y >= 0 && y < height ? owner[s * CELLS + y * MOST_X + x] : 0;
        }

        private int cellsOn(int s) {
            int n = 0;
            for (int y = 0; y < height; y++) {
                for (int x = 0; x < width; x++) {
                    n += ownerAt(s, x, y) != 0 ? 1 : 0;
                }
            }
            return n;
        }

        private int usedRows(int s) {
            int rows = 0;
            for (int y = 0; y < height; y++) {
                for (int x = 0; x < width; x++) {
                    rows = ownerAt(s, x, y) != 0 ? y + 1 : rows;
                }
            }
            return rows;
        }

        private int edgesOn(int s) {
            int n = 0;
            for (int y = 0; y <= height; y++) {
                for (int x = 0; x <= width; x++) {
                    int here = ownerAt(s, x, y);
                    n += here != ownerAt(s, x - 1, y) ? 1 : 0;
                    n += here != ownerAt(s, x, y - 1) ? 1 : 0;
                }
            }
            return n;
        }

        private void findRests(int s) {
            restCount = 0;
            greatestRest = 0;
            Arrays.fill(seen, (byte) 0);
            for (int y = 0; y < height; y++) {
                for (int x = 0; x < width; x++) {
                    int cells = restFrom(s, y * MOST_X + x);
                    restCount += cells > 0 ? 1 : 0;
                    greatestRest = Math.max(greatestRest, cells);
                }
            }
        }

        /** How many cells without a piece hang together with one that was not seen yet. */
        private int restFrom(int s, int cell) {
            int found = reach(s, cell % MOST_X, cell / MOST_X, 0);
            for (int done = 0; done < found && done < CELLS; done++) {
                int x = stack[done] % MOST_X;
                int y = stack[done] / MOST_X;
                found = reach(s, x + 1, y, found);
                found = reach(s, x - 1, y, found);
                found = reach(s, x, y + 1, found);
                found = reach(s, x, y - 1, found);
            }
            return found;
        }

        private int reach(int s, int x, int y, int found) {
            int cell = y * MOST_X + x;
            if (x < 0 || x >= width || y < 0 || y >= height || found >= CELLS || ownerAt(s, x, y) != 0 || seen[cell] != 0) {
                return found;
            }
            seen[cell] = 1;
            stack[found] = cell;
            return found + 1;
        }
    }

    /** Pipes led round what stands in the way. */
    private static final class Pipes {
        static final int CELLS = 1600;
        private static final int PIPE_COUNT = 6, LONG = 20, BROAD = 10, HIGH = 8, STEPS = 6, BEND = 3, FAR = 1 << 20;
        private static final int STATES = CELLS * STEPS, MOST_COST = 6 * CELLS, SLOTS = 8;

        boolean known;
        int led;
        /** What a pipe's way costs; -1: it has none. */
        final int[] cost = new int[PIPE_COUNT];
        final int[] stepCount = new int[PIPE_COUNT];
        final int[] bends = new int[PIPE_COUNT];
        final byte[] ways = new byte[PIPE_COUNT * CELLS];
        private final byte[] taken = new byte[CELLS];
        private final byte[] barred = new byte[CELLS];
        /** A state is a cell and the step that came to it: the least that it costs from there to the end. */
        private final int[] left = new int[STATES];
        /** States that wait, in a ring of lists by what they cost: no step costs as much as there are lists. */
        private final int[] heads = new int[SLOTS];
        private final int[] next = new int[STATES];
        private final int[] before = new int[STATES];
        private int waiting;

        boolean hasWay(int pipe) {
            return known && pipe >= 0 && pipe < PIPE_COUNT && cost[pipe] >= 0;
        }

        int costOf(int pipe) {
            return pipe >= 0 && pipe < PIPE_COUNT ? cost[pipe] : 0;
        }

        void leadAll(Model m) {
            led = 0;
            Arrays.fill(taken, (byte) 0);
            for (int i = 0; i < ROWS[SOLIDS]; i++) {
                if (m.of(SOLIDS, i, 0) == 1) {
                    takeSolid(m, i);
                }
            }
            for (int pipe = 0; pipe < PIPE_COUNT; pipe++) {
                cost[pipe] = -1;
                if (m.of(PIPES, pipe, 0) == 1) {
                    bar(m.of(PIPES, pipe, 7));
                    leadOne(pipe, endOf(m, pipe, 1), endOf(m, pipe, 4));
                    led += cost[pipe] >= 0 ? 1 : 0;
                }
            }
            known = true;
        }

        private static int endOf(Model m, int pipe, int field) {
            return cellAt(m.of(PIPES, pipe, field), m.of(PIPES, pipe, field + 1), m.of(PIPES, pipe, field + 2));
        }

        private static int cellAt(int x, int y, int z) {
            return (z * BROAD + y) * LONG + x;
        }

        private void takeSolid(Model m, int i) {
            for (int z = m.of(SOLIDS, i, 5); z <= m.of(SOLIDS, i, 6); z++) {
                for (int y = m.of(SOLIDS, i, 3); y <= m.of(SOLIDS, i, 4); y++) {
                    for (int x = m.of(SOLIDS, i, 1); x <= m.of(SOLIDS, i, 2); x++) {
                        taken[cellAt(x, y, z)] = 1;
                    }
                }
            }
        }

        private void bar(int gap) {
            Arrays.fill(barred, (byte) 0);
            for (int cell = 0; cell < CELLS; cell++) {
                if (taken[cell] == 0) {
                    continue;
                }
                int x = cell % LONG;
                int y = cell / LONG % BROAD;
                int z = cell / (LONG * BROAD);
                for (int w = Math.max(0, z - gap); w <= Math.min(HIGH - 1, z + gap); w++) {
                    for (int v = Math.max(0, y - gap); v <= Math.min(BROAD - 1, y + gap); v++) {
                        for (int u = Math.max(0, x - gap); u <= Math.min(LONG - 1, x + gap); u++) {
                            barred[cellAt(u, v, w)] = 1;
                        }
                    }
                }
            }
        }

        private void leadOne(int pipe, int from, int to) {
            if (barred[from] != 0 || barred[to] != 0) {
                return;
            }
            int least = from == to ? 0 : search(from, to);
            if (least >= FAR) {
                return;
            }
            cost[pipe] = least;
            walk(pipe, from, least);
        }

        /** The cell that a step leads to; -1: beyond the grid. */
        private static int neighbour(int cell, int step) {
            int x = cell % LONG;
            int y = cell / LONG % BROAD;
            int z = cell / (LONG * BROAD);
            switch (step) {
                case 0: return x + 1 < LONG ? cell + 1 : -1;
                case 1: return x > 0 ? cell - 1 : -1;
                case 2: return y + 1 < BROAD ? cell + LONG : -1;
                case 3: return y > 0 ? cell - LONG : -1;
                case 4: return z + 1 < HIGH ? cell + LONG * BROAD : -1;
                default: return z > 0 ? cell - LONG * BROAD : -1;
            }
        }

        private static int costOfStep(int step) {
            return step < 4 ? 2 : 3;
        }

        /** Works out from the end on what is left for each state, as far as the way needs it: the least cost. */
        private int search(int from, int to) {
            Arrays.fill(left, FAR);
            Arrays.fill(heads, -1);
            waiting = 0;
            for (int step = 0; step < STEPS; step++) {
                offer(to * STEPS + step, 0);
            }
            int least = FAR;
            for (int now = 0; now <= MOST_COST && waiting > 0 && now < least; now++) {
                for (int i = 0; i < STATES && heads[now % SLOTS] >= 0; i++) {
                    int state = heads[now % SLOTS];
                    drop(state);
                    int step = state % STEPS;
                    // The step that is the other way round has the number that differs in the last bit.
                    int cell = neighbour(state / STEPS, step ^ 1);
                    if (cell >= 0 && barred[cell] == 0) {
                        int sum = now + costOfStep(step);
                        least = cell == from ? Math.min(least, sum) : least;
                        for (int last = 0; last < STEPS; last++) {
                            offer(cell * STEPS + last, last == step ? sum : sum + BEND);
                        }
                    }
                }
            }
            return least;
        }

        private void offer(int state, int newCost) {
            if (newCost >= left[state]) {
                return;
            }
            if (left[state] < FAR) {
                drop(state);
            }
            left[state] = newCost;
            int slot = newCost % SLOTS;
            next[state] = heads[slot];
            before[state] = -1;
            if (heads[slot] >= 0) {
                before[heads[slot]] = state;
            }
            heads[slot] = state;
            waiting++;
        }

        private void drop(int state) {
            if (before[state] >= 0) {
                next[before[state]] = next[state];
            } else {
                heads[left[state] % SLOTS] = next[state];
            }
            if (next[state] >= 0) {
                before[next[state]] = before[state];
            }
            waiting--;
        }

        /** Takes the first step each time that keeps the whole way at its least cost. */
        private void walk(int pipe, int from, int least) {
            int cell = from;
            int last = -1;
            int due = least;
            stepCount[pipe] = 0;
            bends[pipe] = 0;
            taken[cell] = 1;
            for (int i = 0; i < CELLS && due > 0; i++) {
                int step = bestStep(cell, last, due);
                if (step < 0) {
                    return;
                }
                cell = neighbour(cell, step);
                due = left[cell * STEPS + step];
                bends[pipe] += last >= 0 && last != step ? 1 : 0;
                ways[pipe * CELLS + i] = (byte) step;
                stepCount[pipe]++;
                taken[cell] = 1;
                last = step;
            }
        }

        private int bestStep(int cell, int last, int due) {
            for (int step = 0; step < STEPS; step++) {
                int to = neighbour(cell, step);
                int bend = last >= 0 && last != step ? BEND : 0;
                if (to >= 0 && left[to * STEPS + step] == due - bend - costOfStep(step)) {
                    return step;
                }
            }
            return -1;
        }
    }

    /** Rods cut from bars, and work planned: both find the first of the best by trying in order. */
    private static final class Shop {
        private static final int ROD_COUNT = 9, TASK_COUNT = 7, DAYS = 256;

        boolean barsKnown, planKnown;
        /** How many bars there are; -1: none do. */
        int barCount;
        final int[] barOf = new int[ROD_COUNT];
        private final int[] room = new int[ROD_COUNT];
        /** The plan's last day; -1: there is none. */
        int planEnd;
        final int[] begins = new int[TASK_COUNT];
        final int[] turnOf = new int[TASK_COUNT];
        private int tasks;
        private final int[] tryBegins = new int[TASK_COUNT];
        private final int[] tryTurn = new int[TASK_COUNT];
        private final int[] hands = new int[DAYS];
        private final int[] cranes = new int[DAYS];

        void cutRods(Model m) {
            barsKnown = true;
            barCount = -1;
            for (int k = 0; k < ROD_COUNT; k++) {
                if (m.of(RODS, k, 0) > m.of(YARD, 0, 2)) {
                    return;
                }
            }
            for (int most = 0; most <= ROD_COUNT && barCount < 0; most++) {
                if (cutFrom(m, 0, 0, most)) {
                    barCount = most;
                }
            }
        }

        /** Whether the rods from one on fit, with so many bars begun and so many at most. */
        private boolean cutFrom(Model m, int k, int begun, int most) {
            if (k >= ROD_COUNT) {
                return true;
            }
            int length = m.of(RODS, k, 0);
            if (length == 0) {
                return cutFrom(m, k + 1, begun, most);
            }
            // A rod takes a cut's width with it, and a bar has one more than its length: the last rod needs none.
            int need = length + m.of(YARD, 0, 3);
            for (int bar = 0; bar <= begun && bar < most; bar++) {
                if (bar == begun) {
                    room[bar] = m.of(YARD, 0, 2) + m.of(YARD, 0, 3);
                }
                if (room[bar] >= need) {
                    room[bar] -= need;
                    barOf[k] = bar;
                    if (cutFrom(m, k + 1, Math.max(begun, bar + 1), most)) {
                        return true;
                    }
                    room[bar] += need;
                }
            }
            return false;
        }

        boolean isPlanned(int t) {
            return planKnown && planEnd >= 0 && t >= 0 && t < TASK_COUNT && turnOf[t] >= 0;
        }

        int beginOf(int t) {
            return t >= 0 && t < TASK_COUNT ? begins[t] : 0;
        }

        void planWork(Model m) {
            planKnown = true;
            planEnd = -1;
            tasks = 0;
            Arrays.fill(hands, 0);
            Arrays.fill(cranes, 0);
            for (int t = 0; t < TASK_COUNT; t++) {
                turnOf[t] = -1;
                tryTurn[t] = -1;
                if (m.of(TASKS, t, 0) > 0) {
                    tasks++;
                    if (m.of(TASKS, t, 1) > m.of(YARD, 0, 6) || m.of(TASKS, t, 2) > m.of(YARD, 0, 7)) {
                        return;
                    }
                }
            }
            tryOrders(m, 0, 0, 0);
        }

        /** Tries all orders that go on from the tasks that are done, the first ones first. */
        private void tryOrders(Model m, int turn, int done, int end) {
            if (turn >= tasks) {
                planEnd = end;
                System.arraycopy(tryBegins, 0, begins, 0, TASK_COUNT);
                System.arraycopy(tryTurn, 0, turnOf, 0, TASK_COUNT);
                return;
            }
            for (int t = 0; t < TASK_COUNT; t++) {
                int days = m.of(TASKS, t, 0);
                if (days == 0 || (done >> t & 1) != 0 || (m.of(TASKS, t, 4) & ~done) != 0) {
                    continue;
                }
                int day = firstDay(m, t);
                int newEnd = Math.max(end, day + days);
                if (planEnd >= 0 && newEnd >= planEnd) {
                    continue;
                }
                tryBegins[t] = day;
                tryTurn[t] = turn;
                occupy(m, t, 1);
                tryOrders(m, turn + 1, done | 1 << t, newEnd);
                occupy(m, t, -1);
                tryTurn[t] = -1;
            }
        }

        private int firstDay(Model m, int t) {
            int day = m.of(TASKS, t, 3);
            int ahead = m.of(TASKS, t, 4);
            for (int u = 0; u < TASK_COUNT; u++) {
                if ((ahead >> u & 1) != 0) {
                    day = Math.max(day, tryBegins[u] + m.of(TASKS, u, 0));
                }
            }
            int days = m.of(TASKS, t, 0);
            int mostHands = m.of(YARD, 0, 6) - m.of(TASKS, t, 1);
            int mostCranes = m.of(YARD, 0, 7) - m.of(TASKS, t, 2);
            int free = 0;
            // The days count anew behind each one that has too little; behind all other tasks there is enough.
            for (; day < DAYS && free < days; day++) {
                free = hands[day] <= mostHands && cranes[day] <= mostCranes ? free + 1 : 0;
            }
            return day - free;
        }

        private void occupy(Model m, int t, int sign) {
            int first = tryBegins[t];
            int end = Math.min(DAYS, first + m.of(TASKS, t, 0));
            int moreHands = sign * m.of(TASKS, t, 1);
            int moreCranes = sign * m.of(TASKS, t, 2);
            for (int day = first; day < end; day++) {
                hands[day] += moreHands;
                cranes[day] += moreCranes;
            }
        }
    }
}
