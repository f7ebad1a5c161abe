/** Part 3 of the document, promises 16 to 21: each sentence that names a boundary case, with a test of its own. */
public final class SeaEdgesTest {
    private static final int BAD = -1, NO = -2;
    private static final long NONE = ShipYard.NONE;
    private static final int RESTS = 0, SINKS = 1, NO_REST = 2;

    public static void main(String[] args) {
        whatTheSeaMayCome();
        whatRestTells();
        nothingThere();
        upToTheDeck();
        openSpaces();
        openSpacesMoments();
        weights();
        sinks();
        sinksLater();
        levels();
        liquids();
        liquidPoints(0);
        liquidPoints(12);
        liquidMoments();
        openTanks();
        steepestTrim();
        noTrim();
        steepestHeel();
        noHeel();
        trimsThatAreLookedAt();
        openings();
        thePlaneThere();
        rounds();
        otherSides();
        waters();
        liquidAnswers();
        arms();
        alongAnswers();
        loads();
        steel();
        nothingRunsOver();
        Check.end();
    }

    // ---- what the tests use

    /** A box of all COLUMNS from 0 up to a DECK, 100 by 100 each, with a WEIGHT of so many UNITS in each SLICE at HEIGHT 10. */
    private static Yard box(int deck, int units, int[]... rows) {
        Yard x = new Yard();
        x.open(0);
        Check.newRow(x, 0, 0, 100, 100);
        for (int s = 0; s < 16; s++) {
            x.put(0, 1, s, 8, deck);
        }
        Check.newRow(x, 3, 0, units, 0, 15, 0, 10);
        putAll(x, rows);
        Check.due("commit", x.commit(0), 1);
        return x;
    }

    /** A hull of the COLUMNS 7 and 8 of SLICE 7 alone, from 0 to 100, with a WEIGHT at HEIGHT 0. */
    private static Yard twoColumns(int length, int breadth, int units, int slice, int arm, int[]... rows) {
        Yard x = new Yard();
        x.open(0);
        Check.newRow(x, 0, 0, length, breadth);
        Check.newRow(x, 1, 7, 0, 100, 100, 100, 100, 100, 100, 100, 100);
        Check.newRow(x, 3, 0, units, slice, slice, arm, 0);
        putAll(x, rows);
        Check.due("commit", x.commit(0), 1);
        return x;
    }

    private static int[] row(int... tableRowFields) {
        return tableRowFields;
    }

    private static void putAll(Yard x, int[]... rows) {
        for (int[] r : rows) {
            for (int i = 2; i < r.length; i++) {
                Check.due("put()", x.put(0, r[0], r[1], i - 2, r[i]), 1);
            }
        }
    }

    private static void plane(Yard x, long a, long b, long c) {
        Check.due("a", x.rest(5), a);
        Check.due("b", x.rest(6), b);
        Check.due("c", x.rest(7), c);
    }

    // ---- promises 16 and 17

    private static void whatTheSeaMayCome() {
        Check.says("BAD: bits of a SPACE without KIND, or beyond 16");
        Yard x = box(100, 800, row(2, 0, 1, 0, 0, 0, 0, 0, 1, 16), row(2, 9, 2, 1, 1, 0, 0, 0, 1, 16),
                row(2, 15, 1, 2, 2, 0, 0, 0, 1, 16));
        for (int p = 0; p < 31; p++) {
            Check.due("SPACE " + p, x.sea(1 << p), p == 0 || p == 9 || p == 15 ? RESTS : BAD);
        }
        Check.due("all that have a KIND", x.sea(1 | 1 << 9 | 1 << 15), RESTS);
        Check.due("they are OPEN", x.rest(2), 1 | 1 << 9 | 1 << 15);
        Check.due("one more", x.sea(3 | 1 << 9 | 1 << 15), BAD);
        Check.due("65535", x.sea(65535), BAD);
        Check.due("65536", x.sea(65536), BAD);
        Check.due("65537", x.sea(65537), BAD);
        Check.due("-1", x.sea(-1), BAD);
        Check.due("the least int", x.sea(Integer.MIN_VALUE), BAD);
        Check.due("the least int and 1", x.sea(Integer.MIN_VALUE + 1), BAD);
        Check.due("what is refused changes nothing", x.rest(2), 1 | 1 << 9 | 1 << 15);
        Check.due("none", x.sea(0), RESTS);
        Check.due("none is OPEN", x.rest(2), 0);
        Yard all = new Yard();
        all.open(0);
        for (int p = 0; p < 16; p++) {
            Check.newRow(all, 2, p, 1 + p % 2, p, p, 0, 0, 0, 1);
        }
        all.commit(0);
        Check.due("all 16 have a KIND", all.sea(65535), SINKS);
        Check.due("they are OPEN", all.rest(2), 65535);
    }

    private static void whatRestTells() {
        Check.says("BAD; NO: not worked out, no REST");
        Yard x = box(100, 800);
        for (int what : new int[] {-1, 12, Integer.MIN_VALUE, Integer.MAX_VALUE}) {
            Check.due("rest(" + what + ")", x.rest(what), BAD);
        }
        for (int what = 0; what < 12; what++) {
            Check.due("not worked out: rest(" + what + ")", x.rest(what), NO);
        }
        Check.due("sea", x.sea(0), RESTS);
        long w = 16L * 1024 * 800;
        long[] due = {0, 0, 0, w, 2 * w, 3200, 0, 0, w, 0, 0, w * 3200 - w * 1280};
        for (int what = 0; what < 12; what++) {
            Check.due("rest(" + what + ")", x.rest(what), due[what]);
        }
        Check.due("rest(12)", x.rest(12), BAD);
        x = box(100, 1600);
        Check.due("sea", x.sea(0), SINKS);
        for (int what = 0; what < 12; what++) {
            Check.due("it SINKS: rest(" + what + ")", x.rest(what), what == 0 ? 1 : what < 3 ? 0 : what < 5 ? 2 * w : NO);
        }
        x = box(100, 800, row(3, 0, 800, 0, 15, 0, 2000));
        Check.due("sea", x.sea(0), NO_REST);
        for (int what = 0; what < 12; what++) {
            Check.due("no REST: rest(" + what + ")", x.rest(what), what == 0 ? 2 : what < 3 ? 0 : what < 5 ? (what - 2) * w : NO);
        }
    }

    private static void nothingThere() {
        Check.says("SINKS: W is not below V of all of it");
        Yard x = new Yard();
        Check.due("no hull, no WEIGHT", x.sea(0), SINKS);
        Check.due("W", x.rest(3), 0);
        Check.due("V of all of it", x.rest(4), 0);
        Check.says("none, if T(low, c) is above 0, or T(high, c) is not");
        x = box(100, 0);
        Check.due("no WEIGHT: T(high, c) is 0", x.sea(0), NO_REST);
        Check.due("W", x.rest(3), 0);
        Check.due("V of all of it", x.rest(4), 16L * 256 * 6400);
    }

    private static void upToTheDeck() {
        Check.says("In a COLUMN it stands from the BOTTOM up to the plane, the DECK at most");
        Yard x = box(100, 500, row(1, 3, 0, 0, 0, 0, 0, 0, 0, 90, 10), row(1, 12, 0, 0, 0, 0, 0, 0, 0, 90, 10));
        Check.due("sea", x.sea(0), RESTS);
        Check.due("V of all of it", x.rest(4), 16L * 64 * (14 * 16 * 100 + 2 * 14 * 10));
        Check.due("up to the DECK", x.water(3, 7), 640);
        Check.due("no COLUMN", x.water(3, 0), 0);
        Check.due("up to the plane", x.water(4, 7), x.rest(5) + x.rest(6) * -7 - x.rest(7));
        x = box(100, 500, row(1, 3, 0, 0, 0, 0, 0, 0, 0, 20, 10), row(1, 12, 0, 0, 0, 0, 0, 0, 0, 20, 10));
        Check.due("sea", x.sea(0), RESTS);
        Check.due("no COLUMN, though the plane is above its BOTTOM", x.water(3, 0), 0);
        plane(x, 2205, 0, 0);
        Check.due("V", x.rest(8), 16L * (14 * 16 * 2205 + 2 * 14 * 640));
        x = box(100, 500, row(1, 7, 0, 0, 0, 0, 0, 0, 0, 99, 100), row(1, 8, 0, 0, 0, 0, 0, 0, 0, 99, 100));
        Check.due("sea", x.sea(0), RESTS);
        Check.due("a BOTTOM above the plane", x.water(7, 15), 0);
        Check.due("a BOTTOM above the plane", x.water(8, 0), 0);
    }

    // ---- spaces that are open

    private static void allOf(String told, long due, int bits, int[]... rows) {
        Yard x = box(100, 0, rows);
        x.sea(bits);
        Check.due(told, x.rest(4), due);
    }

    private static void openSpaces() {
        Check.says("Of its POINTS each counts 16 BITS, but those within the HEIGHTS of a SPACE that is OPEN to the sea "
                + "(and has the SLICE and COLUMN): what stands in it (FIELD 7)");
        long all = 16L * 64 * 256 * 100;
        allOf("none OPEN", all, 0, row(2, 0, 1, 0, 15, 0, 15, 0, 100, 0));
        allOf("16 sixteenths", all, 1, row(2, 0, 1, 0, 15, 0, 15, 0, 100, 16));
        allOf("15 sixteenths", all / 16 * 15, 1, row(2, 0, 1, 0, 15, 0, 15, 0, 100, 15));
        allOf("1 sixteenth", all / 16, 1, row(2, 0, 2, 0, 15, 0, 15, 0, 100, 1));
        allOf("nothing", 0, 1, row(2, 0, 1, 0, 15, 0, 15, 0, 100, 0));
        allOf("HEIGHTS beyond the DECK", 0, 1, row(2, 0, 1, 0, 15, 0, 15, 0, 2000, 0));
        allOf("HEIGHTS 10 .. 11", all - 16L * 64 * 256, 1, row(2, 0, 1, 0, 15, 0, 15, 10, 11, 0));
        allOf("HEIGHTS 99 .. 101", all - 16L * 64 * 256, 1, row(2, 0, 1, 0, 15, 0, 15, 99, 101, 0));
        allOf("HEIGHTS above the DECK", all, 1, row(2, 0, 1, 0, 15, 0, 15, 100, 2000, 0));
        allOf("SLICES 3 .. 4", all - 16L * 64 * 2 * 16 * 100, 1, row(2, 0, 1, 3, 4, 0, 15, 0, 100, 0));
        allOf("COLUMNS 3 .. 4", all - 16L * 64 * 2 * 16 * 100, 1, row(2, 0, 1, 0, 15, 3, 4, 0, 100, 0));
        allOf("one COLUMN", all - 16L * 64 * 100, 1 << 15, row(2, 15, 1, 15, 15, 15, 15, 0, 100, 0));
        allOf("one of two", all - 16L * 64 * 100, 2, row(2, 0, 1, 0, 0, 0, 0, 0, 100, 0), row(2, 1, 1, 1, 1, 0, 0, 0, 100, 0));
        allOf("both", all - 64L * 100 * (16 + 9), 3, row(2, 0, 1, 0, 0, 0, 0, 0, 100, 0), row(2, 1, 1, 1, 1, 0, 0, 0, 100, 7));
        allOf("below a BOTTOM", all - 16L * 64 * (16 * 60 + 16 * 40), 1, row(1, 0, 60, 60, 60, 60, 60, 60, 60, 60, 100),
                row(2, 0, 1, 0, 0, 0, 15, 50, 100, 0));
    }

    private static void openSpacesMoments() {
        Check.says("VZ the sum over all rows of POINTS that count alike, one behind the other: BITS times (lower + upper end)");
        Yard x = box(100, 800, row(2, 0, 1, 0, 15, 0, 15, 10, 20, 4));
        Check.due("sea", x.sea(1), RESTS);
        long w = 16L * 1024 * 800;
        // 640 POINTS count 4 BITS: 480 POINTS more of 16 BITS make up for them.
        plane(x, 3680, 0, 0);
        Check.due("V", x.rest(8), w);
        long vz = 256L * (16 * 640 * 640 + 4 * 640 * (640 + 1280) + 16 * 2400 * (1280 + 3680));
        Check.due("VZ - WZ", x.rest(11), vz - w * 1280);
        Check.due("those in OPEN SPACES, too", x.water(0, 0), 3680);
        x = box(100, 800, row(2, 0, 1, 0, 15, 0, 15, 49, 51, 0));
        Check.due("sea", x.sea(1), RESTS);
        Check.says("LEVEL(b, c) is the greatest a of -100000 .. 200000 with V not above W");
        // 3136 POINTS are below the SPACE, 64 are missing; the 128 in it count nothing.
        plane(x, 3136 + 128 + 64, 0, 0);
        x = box(100, 784, row(2, 0, 1, 0, 15, 0, 15, 49, 51, 0));
        Check.due("sea", x.sea(1), RESTS);
        plane(x, 3136 + 128, 0, 0);
        Check.due("V", x.rest(8), 16L * 1024 * 784);
    }

    private static void weights() {
        Check.says("of each WEIGHT and each of its SLICES 1024 times the UNITS (WX: that times 2 s - 15; WY: times its ARM; "
                + "WZ: times 128 HEIGHTs)");
        Yard x = box(100, 0, row(3, 0, 0, 9, 3, 15, 2000), row(3, 23, 60000, 0, 15, -15, 2000), row(3, 4, 1, 15, 15, 15, 0));
        Check.due("sea", x.sea(0), SINKS);
        Check.due("W", x.rest(3), 1024L * (16 * 60000 + 1));
        x = twoColumns(1, 1, 1, 7, 0, row(3, 1, 1, 6, 7, 1, 1), row(3, 2, 0, 0, 15, 15, 2000));
        Check.due("sea", x.sea(0), RESTS);
        Check.due("W", x.rest(3), 3 * 1024);
        Check.due("V", x.rest(8), 3 * 1024);
        Check.due("VX - WX", x.rest(9), -3 * 1024 - 1024 * (-1 - 3 - 1));
        Check.due("it heels to where its ARM is", x.rest(7) > 0 ? 1 : 0, 1);
        long one = x.water(7, 7);
        long other = x.water(7, 8);
        Check.due("POINTS", one + other, 192);
        Check.due("VY - WY", x.rest(10), 16 * (other - one) - 2 * 1024);
        Check.due("VZ - WZ", x.rest(11), 16 * (one * one + other * other) - 2 * 1024 * 128);
        Check.says("of each FILL with UNITS (its SPACE not OPEN) 64 times UNITS times its weight");
        x = box(100, 0, row(2, 3, 2, 0, 0, 0, 15, 0, 100, 16), row(2, 4, 2, 1, 1, 0, 15, 0, 100, 16), row(4, 3, 1600, 32),
                row(4, 4, 1), row(4, 5, 0, 32));
        x.sea(0);
        Check.due("two FILLS", x.rest(3), 64L * 1600 * 32 + 64);
        x.sea(8);
        Check.due("one is OPEN", x.rest(3), 64);
        x.sea(16);
        Check.due("the other is", x.rest(3), 64L * 1600 * 32);
        x.sea(24);
        Check.due("both are", x.rest(3), 0);
    }

    private static void sinks() {
        Check.says("SINKS: W is not below V of all of it (the plane above all)");
        Yard x = box(100, 1600);
        Check.due("W as V", x.sea(0), SINKS);
        Check.due("W", x.rest(3), x.rest(4));
        x = box(100, 1601);
        Check.due("W above V", x.sea(0), SINKS);
        x = box(100, 1599);
        Check.due("W below V", x.sea(0), RESTS);
        plane(x, 6396, 0, 0);
        x = box(100, 1599, row(2, 0, 2, 7, 8, 7, 8, 0, 100, 16), row(4, 0, 15, 16));
        Check.due("W below V by a FILL's UNIT", x.sea(0), RESTS);
        Check.due("W", x.rest(3), x.rest(4) - 1024);
        x = box(100, 1599, row(2, 0, 2, 7, 8, 7, 8, 0, 100, 16), row(4, 0, 16, 16));
        Check.due("W as V by a FILL's UNIT", x.sea(0), SINKS);
        Check.due("W as V, but the FILL is OPEN", x.sea(1), RESTS);
        x = box(2000, 60000, row(3, 1, 60000, 0, 15, 0, 0));
        Check.due("the most of all", x.sea(0), SINKS);
        Check.due("V of all of it", x.rest(4), 16L * 64 * 256 * 2000);
    }

    private static void sinksLater() {
        Check.says("1 ROUNDS so far, 2 bits of the SPACES that are OPEN by then, 3 W, 4 V of all of it by then");
        long w = 16L * 1024 * 800;
        Yard x = box(100, 800, row(2, 2, 2, 0, 15, 0, 15, 0, 100, 0), row(4, 2, 16, 16), row(5, 0, 1, 0, 0, 0, -1, 2));
        Check.due("it SINKS behind a ROUND", x.sea(0), SINKS);
        Check.due("rest(0)", x.rest(0), 1);
        Check.due("ROUNDS", x.rest(1), 1);
        Check.due("OPEN", x.rest(2), 4);
        Check.due("W without the FILL", x.rest(3), w);
        Check.due("V", x.rest(4), 0);
        Check.due("a", x.rest(5), NO);
        Check.due("water", x.water(0, 0), NO);
        Check.due("arm", x.arm(0), NONE);
        x = box(100, 700, row(2, 0, 1, 0, 7, 0, 15, 0, 100, 0), row(5, 0, 1, 0, 0, 0, -1, 0));
        Check.due("no REST behind a ROUND", x.sea(0), NO_REST);
        Check.due("rest(0)", x.rest(0), 2);
        Check.due("ROUNDS", x.rest(1), 1);
        Check.due("OPEN", x.rest(2), 1);
        Check.due("W", x.rest(3), 16L * 1024 * 700);
        Check.due("V", x.rest(4), w);
        Check.due("c", x.rest(7), NO);
    }

    private static void levels() {
        Check.says("LEVEL(b, c) is the greatest a of -100000 .. 200000 with V not above W");
        int[] more = {0, 1, 3, 4, 7, 8};
        for (int m : more) {
            // A UNIT in SLICES 6 .. 9 is a POINT of the whole box; of a FILL of 16 sixteenths four UNITS are, in four tanks.
            Yard x = box(100, 800, row(2, 0, 2, 7, 7, 7, 7, 0, 100, 16), row(2, 1, 2, 7, 7, 8, 8, 0, 100, 16),
                    row(2, 2, 2, 8, 8, 7, 7, 0, 100, 16), row(2, 3, 2, 8, 8, 8, 8, 0, 100, 16), row(4, 0, m, 4), row(4, 1, m, 4),
                    row(4, 2, m, 4), row(4, 3, m, 4));
            Check.due("sea", x.sea(0), RESTS);
            Check.due("W", x.rest(3), 16L * 1024 * 800 + 1024 * m);
            plane(x, 3200 + m / 4, 0, 0);
            Check.due("V", x.rest(8), 4096L * (3200 + m / 4));
        }
    }

    // ---- liquids

    private static void liquids() {
        Check.says("a being the greatest of -100000 .. 200000 with no more than 64 times UNITS POINTS below it");
        for (int units : new int[] {1, 2, 99, 100}) {
            Yard x = box(100, 800, row(2, 5, 2, 7, 7, 7, 7, 0, 100, 0), row(4, 5, units, 1));
            Check.due("sea", x.sea(0), RESTS);
            // The COLUMN lies half a column and half a slice before the middle.
            Check.due("a LIQUID of " + units, x.liquid(5), units == 100 ? 200000 : 64 * units + x.rest(6) + x.rest(7));
        }
        for (int units : new int[] {1, 9, 10}) {
            Yard x = box(100, 800, row(2, 5, 2, 7, 7, 7, 7, 85, 95, 0), row(4, 5, units, 1));
            Check.due("sea", x.sea(0), RESTS);
            Check.due("HEIGHTS 85 .. 95, a LIQUID of " + units, x.liquid(5),
                    units == 10 ? 200000 : 64 * (85 + units) + x.rest(6) + x.rest(7));
        }
        Check.says("The LIQUID lies in the SPACE's COLUMNS and HEIGHTS (as far as BOTTOM and DECK let)");
        for (int units : new int[] {1, 19, 20}) {
            Yard x = box(100, 800, row(1, 7, 0, 30, 0, 0, 0, 0, 0, 0, 50), row(1, 8, 0, 30, 0, 0, 0, 0, 0, 0, 50),
                    row(2, 5, 2, 7, 7, 6, 6, 0, 100, 0), row(4, 5, units, 1));
            Check.due("sea", x.sea(0), RESTS);
            Check.due("BOTTOM 30, DECK 50, a LIQUID of " + units, x.liquid(5),
                    units == 20 ? 200000 : 64 * (30 + units) + x.rest(6) + 3 * x.rest(7));
        }
    }

    /** Four tanks round the middle, from a SPACE on. */
    private static void liquidPoints(int first) {
        Check.says("of these WX, WY, WZ have POINTS times weight times 2 s - 15, times 2 k - 15, times (lower + upper end)");
        // 64 POINTS in three COLUMNS each: 21 in each of them, one is left over.
        int[][] rows = new int[8][];
        for (int i = 0; i < 4; i++) {
            rows[i] = row(2, first + i, 2, 7 + i / 2, 7 + i / 2, 5 + i % 2 * 3, 7 + i % 2 * 3, 0, 100, 0);
            rows[4 + i] = row(4, first + i, 1, 16);
        }
        Yard x = box(100, 800, rows);
        Check.due("sea", x.sea(0), RESTS);
        long w = 16L * 1024 * 800;
        Check.due("W has all POINTS", x.rest(3), w + 4 * 64 * 16);
        plane(x, 3201, 0, 0);
        for (int p = 0; p < 4; p++) {
            Check.due("liquid(" + (first + p) + ")", x.liquid(first + p), 21);
        }
        Check.due("VX - WX", x.rest(9), 0);
        Check.due("VY - WY", x.rest(10), 0);
        Check.due("VZ - WZ", x.rest(11), 4096L * 3201 * 3201 - w * 1280 - 12L * 21 * 21 * 16);
        Check.says("LOAD of a SLICE: what W has there (WEIGHTS; of LIQUIDS POINTS times weight) less V there");
        for (int s = 0; s < 16; s++) {
            Check.due("LOAD of SLICE " + s, x.along(0, s), 819200 - 819456 + (s == 7 || s == 8 ? 2 * 63 * 16 : 0));
        }
        Check.due("FORCE(16)", x.along(1, 16), -64);
    }

    private static void liquidMoments() {
        Check.says("of these WX, WY, WZ have POINTS times weight times 2 s - 15, times 2 k - 15, times (lower + upper end)");
        Yard x = box(100, 800, row(2, 9, 2, 0, 0, 12, 12, 5, 100, 0), row(4, 9, 40, 32));
        Check.due("sea", x.sea(0), RESTS);
        long vx = 0;
        long vy = 0;
        long vz = 0;
        for (int i = 0; i < 256; i++) {
            long points = x.water(i / 16, i % 16);
            vx += 16 * points * (2 * (i / 16) - 15);
            vy += 16 * points * (2 * (i % 16) - 15);
            vz += 16 * points * points;
        }
        long liquid = 64L * 40 * 32;
        Check.due("the first SLICE's COLUMN 12, 40 UNITS from HEIGHT 5 on", x.liquid(9), 45 * 64 + 15 * x.rest(6) - 9 * x.rest(7));
        Check.due("VX - WX", x.rest(9), vx + 15 * liquid);
        Check.due("VY - WY", x.rest(10), vy - 9 * liquid);
        Check.due("VZ - WZ", x.rest(11), vz - 16L * 1024 * 800 * 1280 - liquid * (5 + 45) * 64);
        Check.due("W", x.rest(3), 16L * 1024 * 800 + liquid);
    }

    private static void openTanks() {
        Check.says("of each FILL with UNITS (its SPACE not OPEN)");
        Yard x = box(100, 800, row(2, 0, 2, 0, 15, 0, 15, 0, 1, 8), row(4, 0, 256, 16));
        Check.due("sea", x.sea(0), RESTS);
        plane(x, 3264, 0, 0);
        Check.due("LOAD", x.along(0, 5), 0);
        Check.due("VZ - WZ", x.rest(11), 4096L * 3264 * 3264 - 16L * 1024 * 800 * 1280 - 64L * 256 * 16 * 64);
        Check.due("sea", x.sea(1), RESTS);
        // 64 POINTS of each COLUMN count 8 BITS.
        plane(x, 3232, 0, 0);
        Check.due("LOAD", x.along(0, 5), 0);
        Check.due("VZ - WZ", x.rest(11), 256L * (16L * 3232 * 3232 - 8 * 64 * 64) - 16L * 1024 * 800 * 1280);
    }

    // ---- trim and heel

    private static void steepestTrim() {
        Check.says("b, c are -2048 .. 2048");
        // T(b, 0) is 2048 16 4 W + b 64 W: 0 at b = -2048.
        Yard x = twoColumns(4, 1, 2, 5, 0);
        Check.due("T(low, c) is 0", x.sea(0), RESTS);
        plane(x, -1984, -2048, 0);
        Check.due("VX - WX", x.rest(9), 4 * 2048);
        Check.due("VZ - WZ", x.rest(11), 64 * 2048);
        Check.due("water", x.water(7, 7), 64);
        // T(b, 0) is 2048 16 (-4 W) + b 96 W.
        x = twoColumns(4, 1, 3, 9, 0);
        Check.due("T(high, c) is above 0", x.sea(0), RESTS);
        plane(x, 96 + 1365, 1365, 0);
        Check.says("low becomes m, if T(m, c) is not above 0, else high does; it is low");
        // T(b, 0) is 2048 16 (-4 W) + b 128 W: 0 at b = 1024.
        x = twoColumns(4, 1, 4, 9, 0);
        Check.due("T(1024, c) is 0", x.sea(0), RESTS);
        plane(x, 128 + 1024, 1024, 0);
        x = twoColumns(4, 1, 4, 5, 0);
        Check.due("T(-1024, c) is 0", x.sea(0), RESTS);
        plane(x, 128 - 1024, -1024, 0);
    }

    private static void noTrim() {
        Check.says("none, if T(low, c) is above 0, or T(high, c) is not");
        Yard x = twoColumns(4, 1, 2, 4, 0);
        Check.due("T(low, c) is above 0", x.sea(0), NO_REST);
        Check.due("arm", x.arm(0), NONE);
        x = twoColumns(4, 1, 2, 9, 0);
        Check.due("T(high, c) is 0", x.sea(0), NO_REST);
        x = twoColumns(4, 1, 2, 10, 0);
        Check.due("T(high, c) is below 0", x.sea(0), NO_REST);
        x = box(100, 0, row(3, 1, 12000, 0, 0));
        Check.due("all WEIGHT in the first SLICE", x.sea(0), NO_REST);
        x = box(100, 0, row(3, 1, 12000, 15, 15));
        Check.due("all WEIGHT in the last SLICE", x.sea(0), NO_REST);
    }

    private static void steepestHeel() {
        Check.says("HEEL likewise by U(TRIM(c), c) for c");
        // U at steep c is 2048 64 (1 W or -1 W, less the ARM's) + c 64 W: 0 at c = -2048.
        Yard x = twoColumns(1, 8, 1, 7, -2);
        Check.due("U at low is 0", x.sea(0), RESTS);
        plane(x, -1984, 0, -2048);
        Check.due("arm(-2048)", x.arm(-2048), 0);
        Check.due("arm(-2047)", x.arm(-2047), 64 * 1024);
        Check.due("water", x.water(7, 7), 64);
        Check.due("water", x.water(7, 8), 0);
        x = twoColumns(1, 8, 2, 7, 2);
        Check.due("U at 1024 is 0", x.sea(0), RESTS);
        plane(x, 128 - 1024, 0, 1024);
        Check.due("arm(1023)", x.arm(1023), -128 * 2048);
        Check.due("arm(1024)", x.arm(1024), 0);
        Check.due("arm(1025)", x.arm(1025), 128 * 2048);
        x = twoColumns(1, 8, 2, 7, -2);
        Check.due("U at -1024 is 0", x.sea(0), RESTS);
        plane(x, 128 - 1024, 0, -1024);
        // U is 2048 64 (-W) + c 320 W: below 0 up to 409.
        x = twoColumns(1, 8, 5, 7, 2);
        Check.due("U at 409 is the last below 0", x.sea(0), RESTS);
        plane(x, 320 - 409, 0, 409);
    }

    private static void noHeel() {
        Check.says("HEEL likewise by U(TRIM(c), c) for c");
        Yard x = twoColumns(1, 8, 1, 7, -3);
        Check.due("U at low is above 0", x.sea(0), NO_REST);
        x = twoColumns(1, 8, 1, 7, 2);
        Check.due("U at high is 0", x.sea(0), NO_REST);
        x = twoColumns(1, 8, 1, 7, 3);
        Check.due("U at high is below 0", x.sea(0), NO_REST);
        x = box(100, 800, row(3, 0, 800, 0, 15, 15));
        Check.due("all WEIGHT at the one side", x.sea(0), NO_REST);
        x = box(100, 800, row(3, 0, 800, 0, 15, -15));
        Check.due("all WEIGHT at the other side", x.sea(0), NO_REST);
    }

    /** Its water goes from COLUMNS 7, 8 of SLICE 7 to COLUMN 12 of SLICE 10 at a heel of some 1600, then to COLUMN 15 of 7. */
    private static Yard fickle(int breadth, int arm) {
        Yard x = new Yard();
        x.open(0);
        Check.newRow(x, 0, 0, 8, breadth);
        Check.newRow(x, 1, 7, 3, 2000, 2000, 2000, 2000, 2000, 2000, 350, 2000);
        Check.newRow(x, 1, 10, 2000, 2000, 2000, 2000, 3, 2000, 2000, 2000, 2000);
        Check.newRow(x, 3, 0, 2, 4, 4, arm);
        Check.due("commit", x.commit(0), 1);
        return x;
    }

    private static void trimsThatAreLookedAt() {
        Check.says("none also, if TRIM(c) is none for a c that is looked at (the two ends first)");
        Yard x = twoColumns(4, 1, 1, 5, 0);
        Check.due("TRIM(0) is none, those of both ends are not", x.sea(0), NO_REST);
        x = fickle(1, 0);
        Check.due("TRIM(1600) is none, but is not looked at", x.sea(0), RESTS);
        plane(x, -1500, -1756, 0);
        Check.says("NONE: c is not -2048 .. 2048, no REST, DOWN, no TRIM(c)");
        for (int c : new int[] {-1600, 1536, 1600}) {
            Check.due("arm(" + c + ")", x.arm(c), NONE);
            Check.due("arm(" + c + ") asked again", x.arm(c), NONE);
        }
        for (int c : new int[] {-2048, -1024, -1, 0, 1, 1024, 2000, 2048}) {
            Check.due("arm(" + c + ")", x.arm(c) == NONE ? 0 : 1, 1);
        }
        Check.due("arm(0)", x.arm(0), 0);
        Check.says("none also, if TRIM(c) is none for a c that is looked at (the two ends first)");
        x = fickle(10, 15);
        Check.due("TRIM(1536) is none, and is looked at", x.sea(0), NO_REST);
        x = new Yard();
        x.open(0);
        Check.newRow(x, 0, 0, 4, 1);
        Check.newRow(x, 1, 7, 1, 100, 100, 100, 100, 100, 100, 100, 100);
        Check.newRow(x, 1, 9, 100, 100, 100, 100, 100, 100, 100, 0, 100);
        Check.newRow(x, 3, 0, 2, 4, 4);
        Check.newRow(x, 2, 0, 1, 9, 9, 15, 15, 0, 100);
        Check.newRow(x, 2, 1, 1, 9, 9, 0, 0, 0, 100);
        x.commit(0);
        Check.due("TRIM of both ends is none, TRIM(0) is not", x.sea(0), NO_REST);
        Check.due("TRIM(-2048) alone is none", x.sea(1), NO_REST);
        Check.due("TRIM(2048) alone is none", x.sea(2), NO_REST);
        Check.due("none is none", x.sea(3), RESTS);
        // T(b, 0) is 2048 16 6 W + b 192 W.
        plane(x, 128 - 1024, -1024, 0);
    }

    // ---- openings and rounds

    private static void openings() {
        Check.says("by OPENINGS that are there, whose HEIGHT (in POINTS) is below the plane there, a SPACE becomes OPEN");
        for (int height : new int[] {0, 49, 50, 51, 2000}) {
            for (int there = 0; there < 2; there++) {
                Yard x = box(100, 800, row(2, 6, 1, 0, 15, 0, 15, 90, 91, 0), row(5, 7, there, 8, 9, height, -1, 6));
                Check.due("sea", x.sea(0), RESTS);
                plane(x, 3200, 0, 0);
                boolean opens = there == 1 && height < 50;
                Check.due("ROUNDS by an OPENING at " + height, x.rest(1), opens ? 1 : 0);
                Check.due("OPEN by an OPENING at " + height, x.rest(2), opens ? 64 : 0);
            }
        }
        Yard x = box(100, 800, row(3, 1, 1, 6, 9), row(2, 6, 1, 0, 15, 0, 15, 90, 91, 0), row(5, 0, 1, 8, 9, 50, -1, 6));
        Check.due("sea", x.sea(0), RESTS);
        plane(x, 3201, 0, 0);
        Check.due("one POINT below the plane", x.rest(1), 1);
    }

    private static void thePlaneThere() {
        Check.says("THE WATER is below a plane (a, b, c): over SLICE s, COLUMN k it is at a + b (2 s - 15) + c (2 k - 15)");
        // a = -1984, b = -2048: over SLICE 0 it is at 28736, 449 of HEIGHT, over SLICE 6 at 4160, 65.
        int[][] slices = {{0, 449}, {6, 65}};
        for (int[] at : slices) {
            for (int more = -1; more <= 1; more++) {
                Yard x = twoColumns(4, 1, 2, 5, 0, row(2, 1, 1, 15, 15, 0, 15, 0, 9, 0),
                        row(5, 0, 1, at[0], 15, at[1] + more, -1, 1));
                Check.due("sea", x.sea(0), RESTS);
                Check.due("an OPENING of SLICE " + at[0] + " at " + (at[1] + more), x.rest(1), more < 0 ? 1 : 0);
            }
        }
        Yard x = twoColumns(4, 1, 2, 5, 0, row(2, 1, 1, 15, 15, 0, 15, 0, 9, 0), row(5, 0, 1, 8, 15, 0, -1, 1));
        Check.due("sea", x.sea(0), RESTS);
        Check.due("the plane is below 0 over SLICE 8", x.rest(1), 0);
        // a = -1984, c = -2048: over COLUMN 0 it is at 28736.
        for (int height = 448; height <= 450; height++) {
            x = twoColumns(1, 8, 1, 7, -2, row(2, 1, 1, 15, 15, 0, 15, 0, 9, 0), row(5, 0, 1, 3, 0, height, -1, 1));
            Check.due("sea", x.sea(0), RESTS);
            Check.due("an OPENING of COLUMN 0 at " + height, x.rest(1), height < 449 ? 1 : 0);
        }
    }

    private static int[][] chain(boolean back) {
        int[][] rows = new int[16][];
        for (int i = 0; i < 8; i++) {
            rows[i] = row(2, i, 1 + i % 2, i, i, 0, 0, 99, 100, 16);
            rows[8 + i] = row(5, back ? 7 - i : i, 1, 0, 0, 0, i == 0 ? -1 : i - 1, i);
        }
        return rows;
    }

    private static void rounds() {
        Check.says("if the other side is OPEN, or outside, at the beginning of this ROUND, and it is not; "
                + "if there are some, that is a ROUND, and it is worked out anew");
        for (int i = 0; i < 2; i++) {
            Yard x = box(100, 800, chain(i == 1));
            Check.due("sea", x.sea(0), RESTS);
            Check.due("one after the other", x.rest(1), 8);
            Check.due("all are OPEN", x.rest(2), 255);
            Check.due("sea", x.sea(1 << 6), RESTS);
            Check.due("from two SPACES on", x.rest(1), 3);
            Check.due("all are OPEN", x.rest(2), 255);
            Check.due("sea", x.sea(255), RESTS);
            Check.due("all were OPEN", x.rest(1), 0);
            Check.due("sea", x.sea(127), RESTS);
            Check.due("all but one were OPEN", x.rest(1), 1);
        }
        Yard x = box(100, 800, row(2, 0, 1, 0, 0, 0, 0, 99, 100, 16), row(2, 1, 1, 1, 1, 0, 0, 99, 100, 16),
                row(5, 0, 1, 0, 0, 0, -1, 0), row(5, 1, 1, 0, 0, 0, -1, 1));
        Check.due("sea", x.sea(0), RESTS);
        Check.due("two at once are one ROUND", x.rest(1), 1);
        Check.due("both are OPEN", x.rest(2), 3);
        x = box(100, 800, row(2, 0, 1, 0, 15, 0, 15, 0, 10, 0), row(2, 1, 1, 1, 1, 0, 0, 99, 100, 16),
                row(5, 0, 1, 0, 0, 49, -1, 0), row(5, 1, 1, 0, 0, 59, -1, 1), row(5, 2, 1, 0, 0, 60, 0, 1));
        Check.due("sea", x.sea(0), RESTS);
        Check.due("deeper by 10 behind the first ROUND", x.rest(5), 3840);
        Check.due("what is below the plane then", x.rest(1), 2);
        Check.due("both are OPEN", x.rest(2), 3);
    }

    private static void otherSides() {
        Check.says("a SPACE becomes OPEN, if the other side is OPEN, or outside");
        int[][] rows = {row(2, 0, 1, 0, 0, 0, 0, 99, 100, 16), row(2, 1, 1, 1, 1, 0, 0, 99, 100, 16),
            row(2, 2, 1, 2, 2, 0, 0, 99, 100, 16), row(5, 0, 1, 0, 0, 0, 0, 1)};
        Yard x = box(100, 800, rows);
        Check.due("sea", x.sea(0), RESTS);
        Check.due("neither side is OPEN", x.rest(2), 0);
        Check.due("no ROUND", x.rest(1), 0);
        Check.due("sea", x.sea(1), RESTS);
        Check.due("from FIELD 4 to FIELD 5", x.rest(2), 3);
        Check.due("sea", x.sea(2), RESTS);
        Check.due("from FIELD 5 to FIELD 4", x.rest(2), 3);
        Check.due("a ROUND", x.rest(1), 1);
        Check.due("sea", x.sea(3), RESTS);
        Check.due("both were OPEN", x.rest(1), 0);
        Check.due("sea", x.sea(4), RESTS);
        Check.due("another SPACE", x.rest(2), 4);
        x = box(100, 800, row(2, 0, 1, 0, 0, 0, 0, 99, 100, 16), row(2, 1, 1, 1, 1, 0, 0, 99, 100, 16),
                row(5, 0, 1, 0, 0, 0, -1, 1));
        Check.due("sea", x.sea(1), RESTS);
        Check.due("outside is no SPACE", x.rest(2), 3);
        Check.due("sea", x.sea(2), RESTS);
        Check.due("nothing goes on from outside's other side", x.rest(2), 2);
    }

    // ---- promises 18 to 21

    private static void waters() {
        Check.says("POINTS of water in a COLUMN of THE SHIP at REST (those in OPEN SPACES, too). BAD; NO");
        Yard x = box(100, 800);
        int[][] bad = {{-1, 0}, {16, 0}, {0, -1}, {0, 16}, {Integer.MIN_VALUE, 0}, {0, Integer.MAX_VALUE}};
        for (int[] b : bad) {
            Check.due("water(" + b[0] + ", " + b[1] + ")", x.water(b[0], b[1]), BAD);
        }
        Check.due("not worked out", x.water(0, 0), NO);
        Check.due("not worked out", x.water(15, 15), NO);
        x.sea(0);
        for (int[] b : bad) {
            Check.due("water(" + b[0] + ", " + b[1] + ")", x.water(b[0], b[1]), BAD);
        }
        Check.due("water(0, 0)", x.water(0, 0), 3200);
        Check.due("water(0, 15)", x.water(0, 15), 3200);
        Check.due("water(15, 0)", x.water(15, 0), 3200);
        Check.due("water(15, 15)", x.water(15, 15), 3200);
        x = box(100, 1600);
        x.sea(0);
        Check.due("it SINKS", x.water(0, 0), NO);
        x = box(100, 800, row(3, 0, 800, 0, 15, 0, 2000));
        x.sea(0);
        Check.due("no REST", x.water(0, 0), NO);
    }

    private static void liquidAnswers() {
        Check.says("BAD: no such SPACE; NO: it has none, or is OPEN; no REST");
        int[][] rows = {row(2, 0, 2, 7, 7, 7, 7, 0, 100, 16), row(2, 1, 2, 8, 8, 7, 7, 0, 100, 16),
            row(2, 15, 2, 9, 9, 7, 7, 0, 100, 16), row(2, 2, 1, 10, 10, 7, 7, 0, 100, 16), row(4, 0, 1), row(4, 15, 100)};
        Yard x = box(100, 800, rows);
        for (int p : new int[] {-1, 16, Integer.MIN_VALUE, Integer.MAX_VALUE}) {
            Check.due("liquid(" + p + ")", x.liquid(p), BAD);
        }
        Check.due("not worked out", x.liquid(0), NO);
        Check.due("sea", x.sea(0), RESTS);
        Check.due("a FILL", x.liquid(0), 64 + x.rest(6) + x.rest(7));
        Check.due("a full one", x.liquid(15), 200000);
        Check.due("a tank without", x.liquid(1), NO);
        Check.due("a hold", x.liquid(2), NO);
        Check.due("no KIND", x.liquid(3), NO);
        for (int p : new int[] {-1, 16}) {
            Check.due("liquid(" + p + ")", x.liquid(p), BAD);
        }
        Check.due("sea", x.sea(1), RESTS);
        Check.due("OPEN", x.liquid(0), NO);
        Check.due("not OPEN", x.liquid(15), 200000);
        Check.due("sea", x.sea(1 << 15), RESTS);
        Check.due("not OPEN", x.liquid(0) != NO ? 1 : 0, 1);
        Check.due("OPEN", x.liquid(15), NO);
        x = box(100, 1600, rows);
        Check.due("sea", x.sea(0), SINKS);
        Check.due("it SINKS", x.liquid(0), NO);
    }

    private static void arms() {
        Check.says("NONE: c is not -2048 .. 2048, no REST, DOWN, no TRIM(c)");
        Yard x = box(100, 800);
        Check.due("not worked out", x.arm(0), NONE);
        x.sea(0);
        Check.due("arm(0)", x.arm(0), 0);
        Check.due("arm(-2048)", x.arm(-2048), -x.arm(2048));
        Check.due("arm(2048) is one", x.arm(2048) > 0 ? 1 : 0, 1);
        for (int c : new int[] {-2049, 2049, Integer.MIN_VALUE, Integer.MAX_VALUE}) {
            Check.due("arm(" + c + ")", x.arm(c), NONE);
        }
        long at = x.arm(7);
        Check.due("asked again", x.arm(7), at);
        // At a heel of 1 each COLUMN has 1, 3, .. 15 POINTS more or less, so 16 16 680 2 in all.
        Check.due("arm(1)", x.arm(1), 2048L * 10000 * 16 * 16 * 1360 + (x.rest(11) + 16L * 16 * 1360));
        x.crash(0);
        Check.due("DOWN", x.arm(0), NONE);
        x = box(100, 1600);
        x.sea(0);
        Check.due("it SINKS", x.arm(0), NONE);
        Check.says("U(TRIM(c), c), by what is OPEN now");
        x = box(100, 800, row(2, 0, 1, 0, 15, 0, 15, 40, 60, 0));
        Check.due("sea", x.sea(0), RESTS);
        long dry = x.arm(500);
        Check.due("sea", x.sea(1), RESTS);
        long open = x.arm(500);
        Check.due("another one, the SPACE being OPEN", dry == open ? 0 : 1, 1);
        Check.due("sea", x.sea(0), RESTS);
        Check.due("as it was", x.arm(500), dry);
        x = box(100, 800, row(2, 0, 1, 0, 15, 0, 15, 40, 60, 0), row(5, 0, 1, 0, 0, 0, -1, 0));
        Check.due("sea", x.sea(0), RESTS);
        Check.due("OPEN by a ROUND", x.arm(500), open);
    }

    private static void alongAnswers() {
        Check.says("NONE: no such k, what; DOWN; no REST (0 to 2)");
        Yard x = box(100, 800, row(6, 0, 7, 0, 15, 3, 5));
        for (int what = 0; what < 6; what++) {
            Check.due("not worked out: along(" + what + ", 0)", x.along(what, 0),
                    what < 3 ? NONE : what == 3 ? 7 : what == 4 ? 21 : 68);
        }
        x.sea(0);
        for (int what = 0; what < 6; what++) {
            int last = what == 1 || what == 2 ? 16 : 15;
            long due = what < 3 ? 0 : what == 3 ? 7 : what == 4 ? 21 : 68;
            Check.due("along(" + what + ", 0)", x.along(what, 0), due);
            Check.due("along(" + what + ", " + last + ")", x.along(what, last), due);
            Check.due("along(" + what + ", " + (last + 1) + ")", x.along(what, last + 1), NONE);
            Check.due("along(" + what + ", -1)", x.along(what, -1), NONE);
            Check.due("along(" + what + ", the greatest int)", x.along(what, Integer.MAX_VALUE), NONE);
            Check.due("along(" + what + ", the least int)", x.along(what, Integer.MIN_VALUE), NONE);
        }
        for (int what : new int[] {-1, 6, Integer.MAX_VALUE, Integer.MIN_VALUE}) {
            Check.due("along(" + what + ", 0)", x.along(what, 0), NONE);
        }
        x.crash(0);
        for (int what = 0; what < 6; what++) {
            Check.due("DOWN: along(" + what + ", 0)", x.along(what, 0), NONE);
        }
        x = box(100, 1600);
        x.sea(0);
        for (int what = 0; what < 6; what++) {
            Check.due("it SINKS: along(" + what + ", 0)", x.along(what, 0), what < 3 ? NONE : 0);
        }
    }

    private static void loads() {
        Check.says("FORCE(0) is 0, FORCE(k + 1) is FORCE(k) + LOAD(k); BEND(0) is 0, BEND(k + 1) is BEND(k) + FORCE(k) "
                + "+ FORCE(k + 1)");
        Yard x = box(100, 0, row(3, 0, 1600, 4, 11));
        Check.due("sea", x.sea(0), RESTS);
        plane(x, 3200, 0, 0);
        long force = 0;
        long bend = 0;
        for (int k = 0; k < 16; k++) {
            long load = k >= 4 && k <= 11 ? 819200 : -819200;
            Check.due("LOAD(" + k + ")", x.along(0, k), load);
            Check.due("FORCE(" + k + ")", x.along(1, k), force);
            Check.due("BEND(" + k + ")", x.along(2, k), bend);
            bend += force + force + load;
            force += load;
        }
        Check.due("FORCE(16)", x.along(1, 16), 0);
        Check.due("BEND(16)", x.along(2, 16), 0);
        Check.due("BEND(8)", x.along(2, 8), 32 * -819200);
        // Full tanks: all their POINTS lie in their SLICES.
        x = box(100, 800, row(2, 0, 2, 7, 7, 7, 7, 0, 16, 0), row(2, 1, 2, 8, 8, 8, 8, 0, 9, 0), row(4, 0, 16, 5), row(4, 1, 9, 5));
        Check.due("sea", x.sea(0), RESTS);
        Check.due("FORCE(16)", x.along(1, 16), x.rest(3) - x.rest(8));
    }

    private static void nothingRunsOver() {
        Check.says("All in 64 bits, nothing runs over");
        Yard x = box(2000, 16000, row(0, 0, 500, 500));
        Check.due("sea", x.sea(0), RESTS);
        plane(x, 64000, 0, 0);
        long w = 16L * 1024 * 16000;
        Check.due("VZ - WZ", x.rest(11), w * (64000 - 1280));
        for (int c = -2048; c <= 2048; c += 4096) {
            long vy = 256L * c * 1360;
            long vz = 256L * (16L * 64000 * 64000 + 2048L * 2048 * 1360);
            Check.due("arm(" + c + ")", x.arm(c), 2048L * 500 * 500 * vy + c * (vz - w * 1280));
        }
        x = box(2000, 31999, row(0, 0, 500, 500));
        Check.due("one UNIT from SINKING", x.sea(0), RESTS);
        plane(x, 127996, 0, 0);
    }

    private static void steel() {
        Check.says("STEEL of a SLICE: of those that have it: AREA, the sum of areas; FIRST, of area times HEIGHT; "
                + "SECOND, of area times HEIGHT times HEIGHT, and own moments");
        Yard x = new Yard();
        x.open(0);
        putAll(x, row(6, 0, 10000, 0, 15, 2000, 1000000000), row(6, 23, 1, 4, 6, 1, 1), row(6, 7, 0, 0, 15, 9, 9),
                row(6, 8, 3, 15, 15, 0, 2));
        Check.due("commit", x.commit(0), 1);
        long second = 10000L * 2000 * 2000 + 1000000000;
        for (int s = 0; s < 16; s++) {
            int one = s >= 4 && s <= 6 ? 1 : 0;
            int last = s == 15 ? 1 : 0;
            Check.due("AREA of SLICE " + s, x.along(3, s), 10000 + one + 3 * last);
            Check.due("FIRST of SLICE " + s, x.along(4, s), 20000000 + one);
            Check.due("SECOND of SLICE " + s, x.along(5, s), second + 2 * one + 2 * last);
        }
        x = new Yard();
        x.open(0);
        for (int i = 0; i < 24; i++) {
            putAll(x, row(6, i, 10000, 0, 15, 2000, 1000000000));
        }
        Check.due("commit", x.commit(0), 1);
        Check.due("the most AREA", x.along(3, 9), 240000);
        Check.due("the most FIRST", x.along(4, 9), 480000000);
        Check.due("the most SECOND", x.along(5, 9), 24 * second);
        Check.due("none", new Yard().along(5, 0), 0);
    }
}
