import java.util.Random;

/** Promises 16 to 21: ships by hand, and random ships against a plain reckoning of what the document says. */
public final class SeaTest {
    public static void main(String[] args) {
        refusals();
        box();
        flooding();
        edges();
        steel();
        for (int seed = 0; seed < 260; seed++) {
            randomShip(seed);
        }
        System.out.println("rests " + kinds[0] + ", sinks " + kinds[1] + ", no rest " + kinds[2] + ", with rounds " + kinds[3]);
        Check.due("ships of all kinds", kinds[0] > 50 && kinds[1] > 3 && kinds[2] > 3 && kinds[3] > 10 ? 1 : 0, 1);
        Check.end();
    }

    private static final int[] kinds = new int[4];

    private static void refusals() {
        Yard x = new Yard();
        Check.wild(n -> Check.due("rest(" + n + ")", x.rest(n), n < 0 || n > 11 ? -1 : -2));
        Check.wild(n -> Check.due("water(" + n + ", 0)", x.water(n, 0), n < 0 || n > 15 ? -1 : -2));
        Check.wild(n -> Check.due("water(0, " + n + ")", x.water(0, n), n < 0 || n > 15 ? -1 : -2));
        Check.wild(n -> Check.due("liquid(" + n + ")", x.liquid(n), n < 0 || n > 15 ? -1 : -2));
        Check.wild(n -> Check.due("arm(" + n + ")", x.arm(n), ShipYard.NONE));
        Check.wild(n -> Check.due("sea(" + n + ")", x.sea(n), n != 0 ? -1 : 1));
        Check.wild(n -> Check.due("rest(" + n + ")", x.rest(n), n < 0 || n > 11 ? -1 : n > 4 ? -2 : n == 0 ? 1 : 0));
        Check.wild(n -> Check.due("along(0, " + n + ")", x.along(0, n), ShipYard.NONE));
        Check.wild(n -> Check.due("along(1, " + n + ")", x.along(1, n), ShipYard.NONE));
        Check.wild(n -> Check.due("along(4, " + n + ")", x.along(4, n), n < 0 || n > 15 ? ShipYard.NONE : 0));
        Check.wild(n -> Check.due("along(" + n + ", 0)", x.along(n, 0), n < 3 || n > 5 ? ShipYard.NONE : 0));
    }

    private static void box() {
        Yard x = new Yard();
        x.open(0);
        Check.row(x, 0, 0, 100, 100);
        for (int s = 0; s < 16; s++) {
            Check.row(x, 1, s, 0, 0, 0, 0, 0, 0, 0, 0, 100);
        }
        Check.row(x, 3, 0, 800, 0, 15, 0, 10);
        x.commit(0);
        Check.due("sea", x.sea(0), 0);
        Check.due("W", x.rest(3), 16L * 800 * 1024);
        Check.due("V of all", x.rest(4), 256L * 16 * 6400);
        Check.due("a", x.rest(5), 3200);
        Check.due("V", x.rest(8), 16L * 800 * 1024);
        Check.due("arm(0) is where it rests", x.arm(0), 0);
        Check.due("b", x.rest(6), 0);
        Check.due("c", x.rest(7), 0);
        Check.due("water", x.water(3, 3), 3200);
        Check.due("VZ - WZ", x.rest(11), 16L * 800 * 1024 * (3200 - 1280));
        Check.due("load", x.along(0, 3), 0);
        Check.due("force", x.along(1, 16), 0);
        Check.due("bend", x.along(2, 16), 0);
        Check.due("along(1, 17)", x.along(1, 17), ShipYard.NONE);
        Check.due("along(0, 16)", x.along(0, 16), ShipYard.NONE);
        Check.due("liquid", x.liquid(0), -2);
        x.open(0);
        Check.row(x, 3, 0, 1600);
        x.commit(0);
        Check.due("not worked out", x.rest(0), -2);
        Check.due("not worked out", x.arm(0), ShipYard.NONE);
        Check.due("W as V of all sinks", x.sea(0), 1);
        Check.due("sunk", x.water(0, 0), -2);
        x.open(0);
        Check.row(x, 3, 0, 800, 0, 15, 0, 2000);
        x.commit(0);
        Check.due("a high weight has no rest", x.sea(0), 2);
        Check.due("rest(0)", x.rest(0), 2);
        Check.due("rest(5)", x.rest(5), -2);
        Check.due("arm", x.arm(0), ShipYard.NONE);
    }

    private static void flooding() {
        Yard x = new Yard();
        x.open(0);
        Check.row(x, 0, 0, 100, 100);
        for (int s = 0; s < 16; s++) {
            Check.row(x, 1, s, 0, 0, 0, 0, 0, 0, 0, 0, 100);
        }
        Check.row(x, 3, 0, 800, 0, 15, 0, 10);
        Check.row(x, 2, 0, 1, 0, 0, 0, 15, 0, 100, 8);
        Check.row(x, 2, 1, 2, 1, 1, 0, 15, 0, 100, 8);
        Check.row(x, 2, 2, 1, 2, 2, 0, 15, 0, 100, 8);
        Check.row(x, 4, 1, 100, 16);
        Check.row(x, 5, 0, 1, 0, 0, 10, 0, 1);
        Check.row(x, 5, 1, 1, 1, 0, 10, 2, 1);
        x.commit(0);
        Check.due("sea", x.sea(0), 0);
        Check.due("no round", x.rest(1), 0);
        Check.due("none open", x.rest(2), 0);
        Check.due("a liquid", x.liquid(1) != -2 ? 1 : 0, 1);
        Check.due("W with the fill", x.rest(3), 16L * 800 * 1024 + 64 * 100 * 16);
        Check.due("sea", x.sea(1), 0);
        Check.due("two rounds", x.rest(1), 2);
        Check.due("all open", x.rest(2), 7);
        Check.due("the liquid is gone", x.liquid(1), -2);
        Check.due("W without the fill", x.rest(3), 16L * 800 * 1024);
        Check.due("V of all", x.rest(4), 13L * 16 * 16 * 6400 + 3L * 16 * 8 * 6400);
        Check.due("back through the second side", x.sea(4), 0);
        Check.due("two rounds", x.rest(1), 2);
        Check.due("BAD", x.sea(8), -1);
        Check.due("BAD", x.sea(15), -1);
        Check.due("what is refused changes nothing", x.rest(1), 2);
        Check.due("a KIND's bits", x.sea(7), 0);
        Check.due("no round", x.rest(1), 0);
    }

    /** An opening at the plane lets nothing in, one below it does; a ship without weight has no rest. */
    private static void edges() {
        for (int height = 48; height <= 51; height++) {
            Yard x = new Yard();
            x.open(0);
            Check.row(x, 0, 0, 100, 100);
            for (int s = 0; s < 16; s++) {
                Check.row(x, 1, s, 0, 0, 0, 0, 0, 0, 0, 0, 100);
            }
            x.commit(0);
            Check.due("no weight", x.sea(0), 2);
            Check.due("W", x.rest(3), 0);
            x.open(0);
            Check.row(x, 3, 0, 800, 0, 15, 0, 10);
            Check.row(x, 2, 5, 1, 0, 15, 0, 15, 90, 95, 0);
            Check.row(x, 5, 7, 1, 8, 9, height, -1, 5);
            x.commit(0);
            Check.due("sea", x.sea(0), 0);
            Check.due("a", x.rest(5), 3200);
            Check.due("rounds by an opening at " + height, x.rest(1), height < 50 ? 1 : 0);
            Check.due("open by an opening at " + height, x.rest(2), height < 50 ? 32 : 0);
        }
    }

    private static void steel() {
        Yard x = new Yard();
        x.open(0);
        Check.row(x, 6, 0, 10000, 0, 15, 2000, 1000000000);
        Check.row(x, 6, 1, 7, 3, 4, 11, 13);
        Check.row(x, 6, 2, 0, 3, 4, 11, 13);
        x.commit(0);
        Check.due("area", x.along(3, 3), 10007);
        Check.due("first", x.along(4, 4), 20000000 + 77);
        Check.due("second", x.along(5, 3), 10000L * 4000000 + 1000000000 + 7 * 121 + 13);
        Check.due("area", x.along(3, 5), 10000);
        Check.due("along(3, 16)", x.along(3, 16), ShipYard.NONE);
    }

    // ---- random ships

    private static void randomShip(int seed) {
        Random r = new Random(seed);
        Yard x = new Yard();
        x.open(0);
        Reckoning m = new Reckoning();
        m.row(x, 0, 0, 1 + r.nextInt(r.nextBoolean() ? 500 : 60), 1 + r.nextInt(r.nextBoolean() ? 500 : 60));
        int deck = 20 + r.nextInt(r.nextInt(4) == 0 ? 1900 : 400);
        for (int s = 0; s < 16; s++) {
            int ends = Math.max(0, Math.abs(2 * s - 15) - 7);
            int[] hull = new int[9];
            for (int f = 0; f < 8; f++) {
                hull[f] = r.nextInt(3) == 0 ? r.nextInt(deck) : deck * (ends + f) / 40;
            }
            hull[8] = Math.min(2000, deck + r.nextInt(10));
            m.row(x, 1, s, hull);
        }
        int volume = deck * 256 / 2;
        int weights = 1 + r.nextInt(4);
        int lastWeight = r.nextInt(24);
        for (int i = 0; i < weights; i++) {
            int from = i == 0 ? 0 : r.nextInt(16);
            int to = i == 0 ? 15 : from + r.nextInt(16 - from);
            int units = (int) Math.min(60000, (long) volume * (2 + r.nextInt(seed % 4 == 0 ? 40 : 12)) / 16 / (to - from + 1) / weights);
            m.row(x, 3, (lastWeight + i) % 24, units, from, to, i == 0 ? 0 : r.nextInt(31) - 15, r.nextInt(1 + deck / (1 + r.nextInt(6))));
        }
        int spaces = r.nextInt(6);
        int[] space = new int[6];
        for (int p = 0; p < 6; p++) {
            space[p] = (15 + seed + 3 * p) % 16;
        }
        for (int p = 0; p < spaces; p++) {
            int s0 = p * 16 / 6;
            int k0 = r.nextInt(16);
            int h0 = r.nextInt(deck);
            m.row(x, 2, space[p], 1 + r.nextInt(2), s0, s0 + r.nextInt(2), k0, k0 + r.nextInt(16 - k0), h0,
                    h0 + 1 + r.nextInt(2000 - h0), r.nextInt(17));
        }
        for (int i = 0; i < spaces; i++) {
            int p = space[i];
            if (m.get(2, p, 0) == 2) {
                int room = m.room(p);
                m.row(x, 4, p, Math.min(600000, r.nextInt(3) == 0 ? room : r.nextInt(room + 1)), 1 + r.nextInt(32));
            }
        }
        for (int i = 0; i < 8 && spaces > 1; i++) {
            int one = r.nextInt(spaces + 1) - 1;
            int other = (one + 1 + r.nextInt(spaces - 1)) % spaces;
            if (one != other) {
                m.row(x, 5, i, r.nextInt(2), r.nextInt(16), r.nextInt(16), r.nextInt(deck + 1), one < 0 ? -1 : space[one],
                        space[other]);
            }
        }
        // What stands behind the last OPENING and the last STEEL is not theirs.
        m.row(x, 6, 0, 1 + r.nextInt(9), 0, 15, 0, 1);
        m.row(x, 6, 23, 1 + r.nextInt(9), 0, r.nextInt(16), r.nextInt(9), r.nextInt(9));
        m.row(x, 7, 0, 1 + r.nextInt(9), 0, 15, 1, 1);
        Check.due("commit " + seed, x.commit(0), 1);
        int open = 0;
        for (int p = 0; p < spaces; p++) {
            open |= r.nextInt(2) << space[p];
        }
        for (int what = 3; what < 6; what++) {
            int s = r.nextInt(16);
            Check.due(seed + " along(" + what + ", " + s + ")", x.along(what, s), m.steel(s, what));
        }
        int answer = x.sea(open);
        m.sea(open);
        kinds[m.answer]++;
        kinds[3] += m.rounds > 0 ? 1 : 0;
        Check.due(seed + " sea", answer, m.answer);
        long[] due = {m.answer, m.rounds, m.open, m.weight, m.all, m.a, m.b, m.c, m.v, m.vx - m.wx, m.vy - m.wy, m.vz - m.wz};
        for (int what = 0; what < 12; what++) {
            Check.due(seed + " rest(" + what + ")", x.rest(what), what < 5 || answer == 0 ? due[what] : -2);
        }
        if (answer != 0) {
            return;
        }
        m.lookAlong();
        for (int k = 0; k < 17; k++) {
            Check.due(seed + " load", x.along(0, k), k < 16 ? m.load[k] : ShipYard.NONE);
            Check.due(seed + " force", x.along(1, k), m.force[k]);
            Check.due(seed + " bend", x.along(2, k), m.bend[k]);
            Check.due(seed + " liquid", x.liquid(k), k == 16 ? -1 : m.hasLiquid(k) ? m.liquidLevel(k, m.b, m.c) : -2);
        }
        for (int c : new int[] {-2048, r.nextInt(4097) - 2048, 0, 2048}) {
            Check.due(seed + " arm(" + c + ")", x.arm(c), m.lever(c));
        }
        for (int what = 5; what < 12; what++) {
            Check.due(seed + " rest(" + what + ") behind arm()", x.rest(what), due[what]);
        }
        for (int i = r.nextInt(256); x.left() > 0; i = (i + 37) % 256) {
            Check.due(seed + " water", x.water(i / 16, i % 16), m.points(i / 16, i % 16));
        }
    }

    /** The document's words, told again as plainly as may be, with 300001 levels halved for each plane. */
    private static final class Reckoning {
        /** The model, told here as well, since a call for each number would be too many. */
        private final int[][][] fields = new int[8][24][9];
        int answer, rounds, open, a, b, c;
        long weight, all, v, vx, vy, vz, wx, wy, wz;
        final long[] load = new long[16];
        final long[] force = new long[17];
        final long[] bend = new long[17];

        void row(Yard x, int table, int row, int... values) {
            Check.row(x, table, row, values);
            System.arraycopy(values, 0, fields[table][row], 0, values.length);
        }

        int get(int table, int row, int field) {
            return fields[table][row][field];
        }

        int bottom(int s, int k) {
            return get(1, s, k < 8 ? 7 - k : k - 8);
        }

        int room(int p) {
            int units = 0;
            for (int s = get(2, p, 1); s <= get(2, p, 2); s++) {
                for (int k = get(2, p, 3); k <= get(2, p, 4); k++) {
                    for (int h = get(2, p, 5); h < get(2, p, 6); h++) {
                        units += h >= bottom(s, k) && h < get(1, s, 8) ? 1 : 0;
                    }
                }
            }
            return units;
        }

        final int[] low = new int[256];
        final int[] deck = new int[256];
        final int[][] space = new int[16][8];
        final int[][] fill = new int[16][2];

        void copy() {
            for (int i = 0; i < 256; i++) {
                low[i] = 64 * bottom(i / 16, i % 16);
                deck[i] = 64 * get(1, i / 16, 8);
            }
            for (int p = 0; p < 16; p++) {
                for (int f = 0; f < 8; f++) {
                    space[p][f] = get(2, p, f);
                }
                fill[p][0] = get(4, p, 0);
                fill[p][1] = get(4, p, 1);
            }
        }

        long steel(int s, int what) {
            long sum = 0;
            for (int i = 0; i < 24; i++) {
                long area = get(6, i, 0);
                long height = get(6, i, 3);
                if (area > 0 && s >= get(6, i, 1) && s <= get(6, i, 2)) {
                    sum += what == 3 ? area : what == 4 ? area * height : area * height * height + get(6, i, 4);
                }
            }
            return sum;
        }

        boolean has(int p, int s, int k) {
            int[] f = space[p];
            return f[0] > 0 && s >= f[1] && s <= f[2] && k >= f[3] && k <= f[4];
        }

        boolean isOpen(int p) {
            return (open >> p & 1) != 0;
        }

        /** Bits, and bits times (lower + upper end), of a column up to a plane. */
        void column(int s, int k, int plane, long[] into) {
            into[0] = 0;
            into[1] = 0;
            int i = 16 * s + k;
            int top = Math.min(plane, deck[i]);
            int at = low[i];
            while (at < top) {
                int bits = 16;
                int end = top;
                for (int p = 0; p < 16; p++) {
                    if (isOpen(p) && has(p, s, k)) {
                        int from = 64 * space[p][5];
                        int to = 64 * space[p][6];
                        if (at >= from && at < to) {
                            bits = space[p][7];
                            end = Math.min(end, to);
                        } else if (from > at) {
                            end = Math.min(end, from);
                        }
                    }
                }
                long n = (long) bits * (end - at);
                into[0] += n;
                into[1] += n * (at + end);
                at = end;
            }
        }

        void volume(int a, int b, int c) {
            v = 0;
            vx = 0;
            vy = 0;
            vz = 0;
            long[] got = new long[2];
            for (int s = 0; s < 16; s++) {
                for (int k = 0; k < 16; k++) {
                    column(s, k, a + b * (2 * s - 15) + c * (2 * k - 15), got);
                    v += got[0];
                    vx += got[0] * (2 * s - 15);
                    vy += got[0] * (2 * k - 15);
                    vz += got[1];
                }
            }
        }

        int level(int b, int c) {
            int low = -100000;
            int high = 200001;
            while (high - low > 1) {
                int m = low + (high - low) / 2;
                volume(m, b, c);
                if (v <= weight) {
                    low = m;
                } else {
                    high = m;
                }
            }
            return low;
        }

        boolean hasLiquid(int p) {
            return fill[p][0] > 0 && !isOpen(p);
        }

        /** Points, and points times (2 s - 15), (2 k - 15), (lower + upper end), of a liquid. */
        long[] liquid(int p, int a, int b, int c, int onlySlice) {
            long[] sums = new long[4];
            for (int s = space[p][1]; s <= space[p][2]; s++) {
                for (int k = space[p][3]; k <= space[p][4]; k++) {
                    int from = Math.max(64 * space[p][5], low[16 * s + k]);
                    int to = Math.min(64 * space[p][6], deck[16 * s + k]);
                    to = Math.min(to, a + b * (2 * s - 15) + c * (2 * k - 15));
                    if (to > from && (onlySlice < 0 || s == onlySlice)) {
                        sums[0] += to - from;
                        sums[1] += (long) (to - from) * (2 * s - 15);
                        sums[2] += (long) (to - from) * (2 * k - 15);
                        sums[3] += (long) (to - from) * (from + to);
                    }
                }
            }
            return sums;
        }

        int liquidLevel(int p, int b, int c) {
            int low = -100000;
            int high = 200001;
            while (high - low > 1) {
                int m = low + (high - low) / 2;
                if (liquid(p, m, b, c, -1)[0] <= 64L * fill[p][0]) {
                    low = m;
                } else {
                    high = m;
                }
            }
            return low;
        }

        void weigh(int b, int c) {
            weight = 0;
            wx = 0;
            wy = 0;
            wz = 0;
            for (int i = 0; i < 24; i++) {
                for (int s = get(3, i, 1); s <= get(3, i, 2); s++) {
                    long units = 1024L * get(3, i, 0);
                    weight += units;
                    wx += units * (2 * s - 15);
                    wy += units * get(3, i, 3);
                    wz += units * 128 * get(3, i, 4);
                }
            }
            for (int p = 0; p < 16; p++) {
                if (hasLiquid(p)) {
                    weight += 64L * fill[p][0] * fill[p][1];
                    long[] sums = liquid(p, liquidLevel(p, b, c), b, c, -1);
                    wx += sums[1] * fill[p][1];
                    wy += sums[2] * fill[p][1];
                    wz += sums[3] * fill[p][1];
                }
            }
        }

        void lay(int b, int c) {
            weigh(b, c);
            a = level(b, c);
            volume(a, b, c);
        }

        long turn(int b, int c, boolean trimming) {
            lay(b, c);
            long size = get(0, 0, trimming ? 0 : 1);
            return 2048 * size * size * (trimming ? vx - wx : vy - wy) + (trimming ? b : c) * (vz - wz);
        }

        /** TRIM(c), or 9999. */
        int trim(int c) {
            int low = -2048;
            int high = 2048;
            if (turn(low, c, true) > 0 || turn(high, c, true) <= 0) {
                return 9999;
            }
            while (high - low > 1) {
                int m = low + (high - low) / 2;
                if (turn(m, c, true) <= 0) {
                    low = m;
                } else {
                    high = m;
                }
            }
            return low;
        }

        long lever(int c) {
            int trim = trim(c);
            return trim == 9999 ? ShipYard.NONE : turn(trim, c, false);
        }

        int heel() {
            int low = -2048;
            int high = 2048;
            long one = lever(low);
            if (one == ShipYard.NONE || one > 0) {
                return 9999;
            }
            one = lever(high);
            if (one == ShipYard.NONE || one <= 0) {
                return 9999;
            }
            while (high - low > 1) {
                int m = low + (high - low) / 2;
                long u = lever(m);
                if (u == ShipYard.NONE) {
                    return 9999;
                }
                if (u <= 0) {
                    low = m;
                } else {
                    high = m;
                }
            }
            return low;
        }

        void sea(int spaces) {
            copy();
            open = spaces;
            rounds = 0;
            while (true) {
                weigh(0, 0);
                volume(1000000, 0, 0);
                all = v;
                if (weight >= all) {
                    answer = 1;
                    return;
                }
                int heel = heel();
                if (heel == 9999) {
                    answer = 2;
                    return;
                }
                answer = 0;
                c = heel;
                b = trim(c);
                lay(b, c);
                int more = 0;
                for (int i = 0; i < 8; i++) {
                    int plane = a + b * (2 * get(5, i, 1) - 15) + c * (2 * get(5, i, 2) - 15);
                    int one = get(5, i, 4);
                    int other = get(5, i, 5);
                    if (get(5, i, 0) == 1 && 64 * get(5, i, 3) < plane) {
                        more |= (one == -1 || isOpen(one)) && !isOpen(other) ? 1 << other : 0;
                        more |= one != -1 && isOpen(other) && !isOpen(one) ? 1 << one : 0;
                    }
                }
                if (more == 0) {
                    return;
                }
                open |= more;
                rounds++;
            }
        }

        int points(int s, int k) {
            return Math.max(0, Math.min(deck[16 * s], a0 + b * (2 * s - 15) + c * (2 * k - 15)) - low[16 * s + k]);
        }

        private int a0;

        void lookAlong() {
            a0 = a;
            long[] got = new long[2];
            for (int s = 0; s < 16; s++) {
                load[s] = 0;
                for (int i = 0; i < 24; i++) {
                    load[s] += s >= get(3, i, 1) && s <= get(3, i, 2) ? 1024L * get(3, i, 0) : 0;
                }
                for (int p = 0; p < 16; p++) {
                    load[s] += hasLiquid(p) ? fill[p][1] * liquid(p, liquidLevel(p, b, c), b, c, s)[0] : 0;
                }
                for (int k = 0; k < 16; k++) {
                    column(s, k, a + b * (2 * s - 15) + c * (2 * k - 15), got);
                    load[s] -= got[0];
                }
                force[s + 1] = force[s] + load[s];
                bend[s + 1] = bend[s] + force[s] + force[s + 1];
            }
        }
    }
}
