import java.util.ArrayList;
import java.util.List;
import java.util.Random;

/** Promises 26 to 35: plates, rods, pipes and work, against plain searches. */
public final class ShopTest {
    public static void main(String[] args) {
        refusals();
        nestByHand();
        for (int seed = 0; seed < 300; seed++) {
            nests(seed);
        }
        barsByHand();
        for (int seed = 0; seed < 400; seed++) {
            bars(seed);
        }
        pipesByHand();
        for (int seed = 0; seed < 120; seed++) {
            pipes(seed);
        }
        planByHand();
        for (int seed = 0; seed < 250; seed++) {
            plans(seed);
        }
        Check.end();
    }

    private static void refusals() {
        Yard x = new Yard();
        Check.wild(n -> Check.due("piece(" + n + ", 0)", x.piece(n, 0), n < 0 ? -1 : -2));
        Check.wild(n -> Check.due("piece(0, " + n + ")", x.piece(0, n), n < 0 || n > 4 ? -1 : -2));
        Check.wild(n -> Check.due("sheet(" + n + ", 0)", x.sheet(n, 0), n < 0 || n > 5 ? -1 : -2));
        Check.wild(n -> Check.due("sheet(0, " + n + ")", x.sheet(0, n), n < 0 || n > 5 ? -1 : -2));
        Check.wild(n -> Check.due("rod(" + n + ")", x.rod(n), n < 0 || n > 8 ? -1 : -2));
        Check.wild(n -> Check.due("way(" + n + ", 0)", x.way(n, 0), n < 0 || n > 5 ? -1 : -2));
        Check.wild(n -> Check.due("way(0, " + n + ")", x.way(0, n), n < 0 || n > 2 ? -1 : -2));
        Check.wild(n -> Check.due("step(" + n + ", 0)", x.step(n, 0), n < 0 || n > 5 ? -1 : -2));
        Check.wild(n -> Check.due("step(0, " + n + ")", x.step(0, n), n < 0 ? -1 : -2));
        Check.wild(n -> Check.due("task(" + n + ", 0)", x.task(n, 0), n < 0 || n > 6 ? -1 : -2));
        Check.wild(n -> Check.due("task(0, " + n + ")", x.task(0, n), n < 0 || n > 1 ? -1 : -2));
        Check.wild(n -> Check.due("nest(" + n + ")", x.nest(n), n < 0 || n > 3 ? -1 : 0));
        Check.due("nothing to lead", x.lead(), 0);
        Check.due("nothing to plan", x.plan(), 0);
        Check.due("nothing to cut", x.bars(), 0);
        Check.wild(n -> Check.due("piece(" + n + ", 0)", x.piece(n, 0), -1));
        Check.due("no length", x.rod(0), -2);
        Check.due("not there", x.way(0, 0), -2);
        Check.due("not there", x.step(0, 0), -2);
        Check.due("no days", x.task(0, 0), -2);
        Check.due("rests of an empty sheet", x.sheet(5, 4), 1);
        Check.due("cells of it", x.sheet(5, 5), 1);
        Check.due("edges of it", x.sheet(5, 3), 0);
    }

    private static Yard yard(int... fields) {
        Yard x = new Yard();
        x.open(0);
        Check.row(x, 0, 0, fields);
        return x;
    }

    /** Fills the first and last rows of the shop's tables but for one: what stands there must not matter for that. */
    private static void fillOthers(Yard x, int table) {
        int[][] rows = {{6, 23, 9, 2, 7, 6, 5}, {7, 0, 3, 1, 1, 1, 1, 1, 1, 1, 1, 1, 1, 1, 3, 1},
            {7, 7, 3, 1, 1, 1, 1, 1, 1, 1, 1, 1, 1, 1, 3, 1}, {8, 0, 1, 1, 2, 1, 2, 1, 2}, {8, 1, 1, 1, 2, 1, 2, 3, 4},
            {8, 11, 1, 1, 2, 1, 2, 1, 2}, {9, 0, 1, 1, 2, 3, 4, 5, 6, 1}, {9, 5, 1, 1, 2, 3, 4, 5, 6, 1}, {10, 0, 5, 1, 1, 1},
            {10, 6, 5, 1, 1, 1, 1}, {11, 0, 5}, {11, 1, 5}, {11, 2, 5}, {11, 8, 5}};
        for (int[] row : rows) {
            boolean isOther = row[0] != table && (table != 8 || row[0] != 9) && (table != 9 || row[0] != 8);
            for (int i = 2; i < row.length && isOther; i++) {
                x.put(0, row[0], row[1], i - 2, row[i]);
            }
        }
    }

    // ---- plates

    private static void nestByHand() {
        Yard x = yard(1, 1, 1, 0, 5, 4);
        x.put(0, 7, 2, 0, 3);
        x.put(0, 7, 2, 1, 1);
        x.put(0, 7, 2, 12, 2);
        x.put(0, 7, 2, 13, 1);
        x.put(0, 7, 1, 0, 63);
        x.put(0, 7, 1, 12, 1);
        x.commit(0);
        Check.due("nest", x.nest(1), 2);
        Check.due("the larger one first", x.piece(0, 0), 1);
        Check.due("it is left", x.piece(0, 1), -2);
        Check.due("it is left", x.piece(0, 4), -2);
        Check.due("plate", x.piece(1, 0), 2);
        Check.due("plate", x.piece(2, 0), 2);
        Check.due("none such", x.piece(3, 0), -1);
        Check.due("x", x.piece(2, 2), 3);
        Check.due("y", x.piece(2, 3), 0);
        Check.due("turn", x.piece(2, 4), 0);
        Check.due("pieces", x.sheet(0, 0), 2);
        Check.due("cells", x.sheet(0, 1), 6);
        Check.due("rows", x.sheet(0, 2), 2);
        Check.due("edges", x.sheet(0, 3), 16);
        Check.due("rests", x.sheet(0, 4), 1);
        Check.due("greatest", x.sheet(0, 5), 14);
        Check.due("BAD changes nothing", x.nest(4), -1);
        Check.due("plate", x.piece(2, 0), 2);
        x.open(0);
        x.commit(0);
        Check.due("not worked out", x.piece(2, 0), -2);
    }

    private static void nests(int seed) {
        Random r = new Random(seed);
        int w = 1 + r.nextInt(seed % 10 == 0 ? 64 : 14);
        int h = 1 + r.nextInt(seed % 10 == 0 ? 48 : 10);
        Yard x = yard(1, 1, 1, 0, w, h);
        int plates = 1 + r.nextInt(8);
        int[][] rows = new int[8][14];
        for (int p = 0; p < plates; p++) {
            int pw = 1 + r.nextInt(r.nextInt(5) == 0 ? 24 : 5);
            int ph = 1 + r.nextInt(r.nextInt(5) == 0 ? 12 : 4);
            for (int j = 0; j < ph; j++) {
                rows[p][j] = r.nextInt(1 << pw);
            }
            rows[p][0] |= 1 << r.nextInt(pw);
            rows[p][r.nextInt(ph)] |= 1;
            rows[p][12] = r.nextInt(5);
            rows[p][13] = r.nextInt(2);
            Check.row(x, 7, p, rows[p]);
        }
        fillOthers(x, 7);
        Check.due("commit", x.commit(0), 1);
        int gap = r.nextInt(4);
        int[][][] grid = new int[6][w][h];
        List<int[]> pieces = new ArrayList<>();
        for (int cells = 300; cells > 0; cells--) {
            for (int p = 0; p < 8; p++) {
                int n = 0;
                for (int j = 0; j < 12; j++) {
                    n += Integer.bitCount(rows[p][j]);
                }
                for (int i = 0; n == cells && i < rows[p][12]; i++) {
                    pieces.add(place(rows[p], p, grid, gap, pieces.size() + 1));
                }
            }
        }
        int placed = 0;
        for (int[] piece : pieces) {
            placed += piece[1] >= 0 ? 1 : 0;
        }
        Check.due(seed + " nest(" + gap + ")", x.nest(gap), placed);
        for (int k = 0; k < pieces.size(); k++) {
            int[] piece = pieces.get(k);
            for (int what = 0; what < 5; what++) {
                Check.due(seed + " piece(" + k + ", " + what + ")", x.piece(k, what),
                        what > 0 && piece[1] < 0 ? -2 : piece[what]);
            }
        }
        Check.due("none such", x.piece(pieces.size(), 1), -1);
        for (int s = 0; s < 6; s++) {
            int[] due = sheetOf(grid[s], w, h);
            for (int what = 0; what < 6; what++) {
                Check.due(seed + " sheet(" + s + ", " + what + ")", x.sheet(s, what), due[what]);
            }
        }
    }

    /** Plate, sheet, x, y, turn of the first place that will do. */
    private static int[] place(int[] row, int plate, int[][][] grid, int gap, int number) {
        int gw = grid[0].length;
        int gh = grid[0][0].length;
        int w = 0;
        int h = 0;
        List<int[]> cells = new ArrayList<>();
        for (int i = 0; i < 24; i++) {
            for (int j = 0; j < 12; j++) {
                if ((row[j] >> i & 1) == 1) {
                    w = Math.max(w, i);
                    h = Math.max(h, j);
                    cells.add(new int[] {i, j});
                }
            }
        }
        for (int s = 0; s < 6; s++) {
            for (int y = 0; y < gh; y++) {
                for (int x = 0; x < gw; x++) {
                    for (int t = 0; t < (row[13] == 1 ? 4 : 1); t++) {
                        int[][] at = new int[cells.size()][2];
                        boolean good = true;
                        for (int n = 0; n < at.length && good; n++) {
                            int i = cells.get(n)[0];
                            int j = cells.get(n)[1];
                            at[n][0] = x + (t == 0 ? i : t == 1 ? h - j : t == 2 ? w - i : j);
                            at[n][1] = y + (t == 0 ? j : t == 1 ? i : t == 2 ? h - j : w - i);
                            good = at[n][0] < gw && at[n][1] < gh && isFree(grid[s], at[n][0], at[n][1], gap);
                        }
                        if (good) {
                            for (int[] cell : at) {
                                grid[s][cell[0]][cell[1]] = number;
                            }
                            return new int[] {plate, s, x, y, t};
                        }
                    }
                }
            }
        }
        return new int[] {plate, -1, -1, -1, -1};
    }

    private static boolean isFree(int[][] sheet, int x, int y, int gap) {
        for (int u = Math.max(0, x - gap); u <= Math.min(sheet.length - 1, x + gap); u++) {
            for (int v = Math.max(0, y - gap); v <= Math.min(sheet[0].length - 1, y + gap); v++) {
                if (sheet[u][v] != 0) {
                    return false;
                }
            }
        }
        return true;
    }

    private static int[] sheetOf(int[][] sheet, int w, int h) {
        boolean[] pieces = new boolean[40];
        int[] due = new int[6];
        boolean[][] seen = new boolean[w][h];
        for (int x = 0; x < w; x++) {
            for (int y = 0; y < h; y++) {
                int here = sheet[x][y];
                if (here != 0) {
                    due[0] += pieces[here] ? 0 : 1;
                    pieces[here] = true;
                    due[1]++;
                    due[2] = Math.max(due[2], y + 1);
                    due[3] += x == 0 ? 1 : 0;
                    due[3] += y == 0 ? 1 : 0;
                }
                due[3] += x + 1 < w ? (sheet[x + 1][y] != here ? 1 : 0) : here != 0 ? 1 : 0;
                due[3] += y + 1 < h ? (sheet[x][y + 1] != here ? 1 : 0) : here != 0 ? 1 : 0;
                if (here == 0 && !seen[x][y]) {
                    due[4]++;
                    due[5] = Math.max(due[5], flood(sheet, seen, x, y));
                }
            }
        }
        return due;
    }

    private static int flood(int[][] sheet, boolean[][] seen, int x, int y) {
        if (x < 0 || y < 0 || x >= sheet.length || y >= sheet[0].length || seen[x][y] || sheet[x][y] != 0) {
            return 0;
        }
        seen[x][y] = true;
        return 1 + flood(sheet, seen, x + 1, y) + flood(sheet, seen, x - 1, y) + flood(sheet, seen, x, y + 1)
                + flood(sheet, seen, x, y - 1);
    }

    // ---- rods

    private static void barsByHand() {
        Yard x = yard(1, 1, 100, 10);
        Check.row(x, 11, 0, 45);
        Check.row(x, 11, 4, 45);
        Check.row(x, 11, 8, 100);
        x.commit(0);
        Check.due("not worked out", x.rod(0), -2);
        Check.due("bars", x.bars(), 2);
        Check.due("rod", x.rod(0), 0);
        Check.due("rod", x.rod(4), 0);
        Check.due("rod", x.rod(8), 1);
        Check.due("no length", x.rod(1), -2);
        x.open(0);
        x.put(0, 0, 0, 3, 11);
        x.commit(0);
        Check.due("not worked out", x.rod(0), -2);
        Check.due("bars", x.bars(), 3);
        x.open(0);
        x.put(0, 0, 0, 2, 99);
        x.commit(0);
        Check.due("too long", x.bars(), -2);
        Check.due("none did", x.rod(0), -2);
    }

    private static int[] bestBars;
    private static int leastBars;

    private static void bars(int seed) {
        Random r = new Random(seed);
        int bar = 10 + r.nextInt(60);
        int cut = r.nextInt(6);
        Yard x = yard(1, 1, bar, cut);
        int[] length = new int[9];
        for (int k = 0; k < 9; k++) {
            length[k] = r.nextInt(6) == 0 ? 0 : 1 + r.nextInt(seed % 3 == 0 ? bar : bar / 2);
            Check.row(x, 11, k, length[k]);
        }
        fillOthers(x, 11);
        Check.due("commit", x.commit(0), 1);
        leastBars = 100;
        tryBars(length, bar, cut, new int[9], 0, 0);
        Check.due(seed + " bars", x.bars(), leastBars);
        for (int k = 0; k < 9; k++) {
            Check.due(seed + " rod(" + k + ")", x.rod(k), length[k] == 0 ? -2 : bestBars[k]);
        }
    }

    private static void tryBars(int[] length, int bar, int cut, int[] of, int k, int used) {
        if (k == 9) {
            for (int b = 0; b < used; b++) {
                int sum = -cut;
                for (int i = 0; i < 9; i++) {
                    sum += length[i] > 0 && of[i] == b ? length[i] + cut : 0;
                }
                if (sum > bar) {
                    return;
                }
            }
            if (used < leastBars) {
                leastBars = used;
                bestBars = of.clone();
            }
            return;
        }
        if (length[k] == 0) {
            tryBars(length, bar, cut, of, k + 1, used);
            return;
        }
        for (int b = 0; b <= used; b++) {
            of[k] = b;
            tryBars(length, bar, cut, of, k + 1, Math.max(used, b + 1));
        }
    }

    // ---- pipes

    private static void pipesByHand() {
        Yard x = yard(1);
        Check.row(x, 9, 0, 1, 0, 0, 0, 2, 1, 1, 0);
        Check.row(x, 9, 1, 1, 5, 5, 5, 5, 5, 5, 1);
        Check.row(x, 9, 2, 1, 4, 4, 4, 9, 9, 7, 0);
        Check.row(x, 9, 3, 1, 5, 5, 5, 5, 5, 6, 0);
        Check.row(x, 9, 4, 1, 6, 6, 6, 6, 6, 6, 1);
        x.commit(0);
        Check.due("not worked out", x.way(0, 0), -2);
        Check.due("lead", x.lead(), 3);
        Check.due("cost", x.way(0, 0), 2 + 2 + 2 + 3 + 6);
        Check.due("steps", x.way(0, 1), 4);
        Check.due("bends", x.way(0, 2), 2);
        int[] due = {0, 0, 2, 4, -1};
        for (int k = 0; k < 5; k++) {
            Check.due("step", x.step(0, k), due[k]);
        }
        Check.due("step(0, -1)", x.step(0, -1), -1);
        Check.due("the ends are one", x.way(1, 0), 0);
        Check.due("no steps", x.way(1, 1), 0);
        Check.due("no bends", x.way(1, 2), 0);
        Check.due("no step", x.step(1, 0), -1);
        Check.due("led round nothing", x.way(2, 0) > 0 ? 1 : 0, 1);
        Check.due("its end is barred", x.way(3, 0), -2);
        Check.due("its end is barred", x.step(3, 9), -2);
        Check.due("its one end is barred by a gap", x.way(4, 0), -2);
        Check.due("not there", x.way(5, 0), -2);
    }

    private static void pipes(int seed) {
        Random r = new Random(seed);
        Yard x = yard(1);
        boolean[] taken = new boolean[1600];
        int solids = r.nextInt(13);
        for (int i = 0; i < solids; i++) {
            int[] f = {r.nextInt(8) == 0 ? 0 : 1, r.nextInt(20), 0, r.nextInt(10), 0, r.nextInt(8), 0};
            f[2] = Math.min(19, f[1] + r.nextInt(r.nextInt(4) == 0 ? 20 : 4));
            f[4] = Math.min(9, f[3] + r.nextInt(10));
            f[6] = Math.min(7, f[5] + r.nextInt(8));
            Check.row(x, 8, i, f);
            for (int n = 0; n < 1600 && f[0] == 1; n++) {
                int u = n % 20;
                int v = n / 20 % 10;
                int w = n / 200;
                taken[n] |= u >= f[1] && u <= f[2] && v >= f[3] && v <= f[4] && w >= f[5] && w <= f[6];
            }
        }
        int[][] pipe = new int[6][];
        for (int i = 0; i < 6; i++) {
            pipe[i] = new int[] {r.nextInt(8) == 0 ? 0 : 1, r.nextInt(20), r.nextInt(10), r.nextInt(8), r.nextInt(20),
                r.nextInt(10), r.nextInt(8), r.nextInt(2)};
            Check.row(x, 9, i, pipe[i]);
        }
        fillOthers(x, 9);
        Check.due(seed + " commit", x.commit(0), 1);
        int led = x.lead();
        int count = 0;
        for (int i = 0; i < 6; i++) {
            String way = pipe[i][0] == 0 ? null : bestWay(taken, pipe[i]);
            if (way == null) {
                Check.due(seed + " way(" + i + ", 0)", x.way(i, 0), -2);
                continue;
            }
            count++;
            int cost = 0;
            int bends = 0;
            int at = pipe[i][1] + 20 * pipe[i][2] + 200 * pipe[i][3];
            taken[at] = true;
            for (int k = 0; k < way.length(); k++) {
                int step = way.charAt(k) - '0';
                at = next(at, step);
                taken[at] = true;
                bends += k > 0 && way.charAt(k - 1) != way.charAt(k) ? 1 : 0;
                cost += step < 4 ? 2 : 3;
                Check.due(seed + " step(" + i + ", " + k + ")", x.step(i, k), step);
            }
            Check.due(seed + " cost", x.way(i, 0), cost + 3 * bends);
            Check.due(seed + " steps", x.way(i, 1), way.length());
            Check.due(seed + " bends", x.way(i, 2), bends);
            Check.due(seed + " no step", x.step(i, way.length()), -1);
        }
        Check.due(seed + " lead", led, count);
    }

    private static int next(int cell, int step) {
        int x = cell % 20 + (step == 0 ? 1 : step == 1 ? -1 : 0);
        int y = cell / 20 % 10 + (step == 2 ? 1 : step == 3 ? -1 : 0);
        int z = cell / 200 + (step == 4 ? 1 : step == 5 ? -1 : 0);
        return x < 0 || x > 19 || y < 0 || y > 9 || z < 0 || z > 7 ? -1 : x + 20 * y + 200 * z;
    }

    /** Goes on from the one end, keeping for each cell and last step the best row of steps so far. */
    private static String bestWay(boolean[] taken, int[] pipe) {
        int from = pipe[1] + 20 * pipe[2] + 200 * pipe[3];
        int to = pipe[4] + 20 * pipe[5] + 200 * pipe[6];
        boolean[] barred = new boolean[1600];
        for (int a = 0; a < 1600; a++) {
            for (int b = 0; b < 1600 && taken[a]; b++) {
                barred[b] |= Math.abs(a % 20 - b % 20) <= pipe[7] && Math.abs(a / 20 % 10 - b / 20 % 10) <= pipe[7]
                        && Math.abs(a / 200 - b / 200) <= pipe[7];
            }
        }
        if (barred[from] || barred[to]) {
            return null;
        }
        if (from == to) {
            return "";
        }
        String[] best = new String[1600 * 7];
        int[] cost = new int[1600 * 7];
        java.util.TreeSet<Integer> todo = new java.util.TreeSet<>();
        best[from * 7 + 6] = "";
        todo.add(from * 7 + 6);
        while (!todo.isEmpty()) {
            int state = todo.pollFirst();
            int last = state % 7;
            for (int step = 0; step < 6; step++) {
                int cell = next(state / 7, step);
                if (cell < 0 || barred[cell]) {
                    continue;
                }
                int sum = cost[state] + (step < 4 ? 2 : 3) + (last < 6 && last != step ? 3 : 0);
                String way = best[state] + step;
                int to2 = cell * 7 + step;
                if (best[to2] == null || sum < cost[to2] || sum == cost[to2] && way.compareTo(best[to2]) < 0) {
                    best[to2] = way;
                    cost[to2] = sum;
                    todo.add(to2);
                }
            }
        }
        String found = null;
        int least = 0;
        for (int step = 0; step < 6; step++) {
            int state = to * 7 + step;
            if (best[state] != null && (found == null || cost[state] < least
                    || cost[state] == least && best[state].compareTo(found) < 0)) {
                found = best[state];
                least = cost[state];
            }
        }
        return found;
    }

    // ---- work

    private static void planByHand() {
        Yard x = yard(1, 1, 1, 0, 1, 1, 2, 1);
        Check.row(x, 10, 0, 5, 1, 1, 0, 0);
        Check.row(x, 10, 2, 3, 1, 1, 4, 0);
        Check.row(x, 10, 4, 2, 2, 0, 0, 0);
        x.commit(0);
        Check.due("not worked out", x.task(0, 0), -2);
        Check.due("plan", x.plan(), 10);
        Check.due("task", x.task(0, 0), 0);
        Check.due("task", x.task(0, 1), 0);
        Check.due("task", x.task(2, 0), 5);
        Check.due("no days", x.task(1, 0), -2);
        x.open(0);
        x.put(0, 10, 6, 0, 1);
        x.put(0, 10, 6, 1, 3);
        x.commit(0);
        Check.due("needs more than there is", x.plan(), -2);
        Check.due("none", x.task(0, 0), -2);
        x.open(0);
        x.put(0, 10, 6, 0, 0);
        x.commit(0);
        Check.due("a task without days needs nothing", x.plan(), 10);
    }

    private static int[] bestOrder;
    private static int[] bestBegins;
    private static int leastEnd;

    private static void plans(int seed) {
        Random r = new Random(seed);
        int hands = 1 + r.nextInt(6);
        int cranes = 1 + r.nextInt(6);
        Yard x = yard(1, 1, 1, 0, 1, 1, hands, cranes);
        int[][] task = new int[7][];
        for (int t = 0; t < 7; t++) {
            task[t] = new int[] {r.nextInt(7) == 0 ? 0 : 1 + r.nextInt(seed % 4 == 0 ? 20 : 5), r.nextInt(hands + 1),
                r.nextInt(cranes + 1), r.nextInt(seed % 5 == 0 ? 41 : 4), 0};
        }
        boolean back = r.nextBoolean();
        for (int t = 0; t < 7; t++) {
            for (int u = 0; u < 7; u++) {
                if ((back ? u > t : u < t) && task[u][0] > 0 && r.nextInt(5) == 0) {
                    task[t][4] |= 1 << u;
                }
            }
            Check.row(x, 10, t, task[t]);
        }
        fillOthers(x, 10);
        Check.due(seed + " commit", x.commit(0), 1);
        leastEnd = 1000000;
        List<Integer> todo = new ArrayList<>();
        for (int t = 0; t < 7; t++) {
            if (task[t][0] > 0) {
                todo.add(t);
            }
        }
        orders(task, hands, cranes, todo, new ArrayList<>());
        Check.due(seed + " plan", x.plan(), leastEnd);
        for (int t = 0; t < 7; t++) {
            Check.due(seed + " begins", x.task(t, 0), task[t][0] == 0 ? -2 : bestBegins[t]);
            Check.due(seed + " turn", x.task(t, 1), task[t][0] == 0 ? -2 : bestOrder[t]);
        }
    }

    private static void orders(int[][] task, int hands, int cranes, List<Integer> todo, List<Integer> order) {
        if (todo.isEmpty()) {
            schedule(task, hands, cranes, order);
            return;
        }
        for (int i = 0; i < todo.size(); i++) {
            int t = todo.get(i);
            boolean ready = true;
            for (int u = 0; u < 7; u++) {
                ready &= (task[t][4] >> u & 1) == 0 || order.contains(u);
            }
            if (ready) {
                List<Integer> rest = new ArrayList<>(todo);
                rest.remove(i);
                order.add(t);
                orders(task, hands, cranes, rest, order);
                order.remove(order.size() - 1);
            }
        }
    }

    private static void schedule(int[][] task, int hands, int cranes, List<Integer> order) {
        int[] begins = new int[7];
        int[] turn = new int[7];
        int[] h = new int[500];
        int[] c = new int[500];
        int end = 0;
        for (int i = 0; i < order.size(); i++) {
            int t = order.get(i);
            int day = task[t][3] - 1;
            boolean good = false;
            while (!good) {
                day++;
                good = true;
                for (int u = 0; u < 7; u++) {
                    good &= (task[t][4] >> u & 1) == 0 || begins[u] + task[u][0] <= day;
                }
                for (int d = day; d < day + task[t][0]; d++) {
                    good &= h[d] + task[t][1] <= hands && c[d] + task[t][2] <= cranes;
                }
            }
            for (int d = day; d < day + task[t][0]; d++) {
                h[d] += task[t][1];
                c[d] += task[t][2];
            }
            begins[t] = day;
            turn[t] = i;
            end = Math.max(end, day + task[t][0]);
        }
        if (end < leastEnd) {
            leastEnd = end;
            bestBegins = begins;
            bestOrder = turn;
        }
    }
}
