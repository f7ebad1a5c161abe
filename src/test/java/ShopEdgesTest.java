/** Parts 6 to 9 of the document, promises 26 to 35: each sentence that names a boundary case, with a test of its own. */
public final class ShopEdgesTest {
    private static final int BAD = -1, NO = -2;

    public static void main(String[] args) {
        cells();
        turned();
        notTurned();
        inTurn();
        mostPieces();
        sixSheets();
        onTheSheet();
        firstPlaces();
        gaps();
        gapsAllRound();
        noGapElsewhere();
        nestAnswers();
        pieceAnswers();
        sheetAnswers();
        edges();
        rests();
        lengthsAndCuts();
        leastBars();
        firstRowOfBars();
        longRods();
        rodAnswers();
        wholeGrid();
        costs();
        firstWay();
        barredBySolids();
        barredByPipes();
        barredEnds();
        oneCell();
        wayAnswers();
        stepAnswers();
        leadAnswers();
        firstDays();
        endedAhead();
        handsAndCranes();
        furtherDays();
        orders();
        noPlan();
        planAnswers();
        taskAnswers();
        Check.end();
    }

    // ---- what the tests use

    private static int[] row(int... tableRowFields) {
        return tableRowFields;
    }

    private static void putAll(Yard x, int[]... rows) {
        for (int[] r : rows) {
            for (int i = 2; i < r.length; i++) {
                Check.due("put(0, " + r[0] + ", " + r[1] + ", " + (i - 2) + ", " + r[i] + ")",
                        x.put(0, r[0], r[1], i - 2, r[i]), 1);
            }
        }
    }

    private static Yard with(int[]... rows) {
        Yard x = new Yard();
        change(x, rows);
        return x;
    }

    private static void change(Yard x, int[]... rows) {
        x.open(0);
        putAll(x, rows);
        int commits = x.told(0);
        Check.due("commit", x.commit(0), commits + 1);
    }

    private static int[] sheetSize(int alongX, int alongY) {
        return row(0, 0, 1, 1, 1, 0, alongX, alongY);
    }

    /** A plate of up to twelve rows of bits. */
    private static int[] plate(int p, int wanted, int turned, int... rows) {
        int[] all = new int[16];
        all[0] = 7;
        all[1] = p;
        System.arraycopy(rows, 0, all, 2, rows.length);
        all[14] = wanted;
        all[15] = turned;
        return all;
    }

    private static void pieceIs(Yard x, int k, int plate, int sheet, int atX, int atY, int turn) {
        int[] due = {plate, sheet, atX, atY, turn};
        for (int what = 0; what < 5; what++) {
            Check.due("piece(" + k + ", " + what + ")", x.piece(k, what), due[what]);
        }
    }

    private static void pieceIsLeft(Yard x, int k, int plate) {
        Check.due("piece(" + k + ", 0)", x.piece(k, 0), plate);
        for (int what = 1; what < 5; what++) {
            Check.due("piece(" + k + ", " + what + ") of one that is LEFT", x.piece(k, what), NO);
        }
    }

    private static void sheetIs(Yard x, int s, int... due) {
        for (int what = 0; what < 6; what++) {
            Check.due("sheet(" + s + ", " + what + ")", x.sheet(s, what), due[what]);
        }
    }

    // ---- plates

    private static void cells() {
        Check.says("Bit i (1 is bit 0) of row j is its cell i, j");
        int[] corners = plate(0, 1, 0, 1 << 23, 0, 0, 0, 0, 0, 0, 0, 0, 0, 0, 1);
        int[][] sizes = {{24, 12, 1}, {23, 12, 0}, {24, 11, 0}, {12, 24, 0}, {64, 48, 1}};
        for (int[] size : sizes) {
            Yard x = with(sheetSize(size[0], size[1]), corners);
            Check.due("on a SHEET of " + size[0] + " by " + size[1], x.nest(0), size[2]);
        }
        // What stands beside the two cells of a row tells where they are.
        Yard x = with(sheetSize(3, 2), plate(0, 1, 0, 5, 2), plate(1, 3, 0, 1));
        Check.due("nest", x.nest(0), 4);
        pieceIs(x, 0, 0, 0, 0, 0, 0);
        pieceIs(x, 1, 1, 0, 1, 0, 0);
        pieceIs(x, 2, 1, 0, 0, 1, 0);
        pieceIs(x, 3, 1, 0, 2, 1, 0);
        x = with(sheetSize(2, 3), plate(0, 1, 0, 1, 2, 1), plate(1, 3, 0, 1));
        x.nest(0);
        pieceIs(x, 1, 1, 0, 1, 0, 0);
        pieceIs(x, 2, 1, 0, 0, 1, 0);
        pieceIs(x, 3, 1, 0, 1, 2, 0);
    }

    /** A plate of four cells and a hole of four cells in another plate: the turn that fits. */
    private static void fitsInto(int turn, int atX, int atY, int... holed) {
        Yard x = with(sheetSize(4, 4), plate(1, 1, 1, 1, 1, 3), plate(6, 1, 0, holed));
        Check.due("nest", x.nest(0), 2);
        pieceIs(x, 0, 6, 0, 0, 0, 0);
        pieceIs(x, 1, 1, 0, atX, atY, turn);
        Check.due("no cell is free", x.sheet(0, 4), 0);
    }

    private static void turned() {
        Check.says("Turned t times (0 .. 3) a PLATE's cell i, j is at i, j; h - j, i; w - i, h - j; j, w - i, "
                + "with w, h the greatest i, j of its cells");
        // The plate's cells: 0, 0; 0, 1; 0, 2; 1, 2.
        fitsInto(0, 1, 1, 15, 13, 13, 9);
        fitsInto(1, 1, 1, 15, 1, 13, 15);
        fitsInto(2, 1, 1, 15, 9, 11, 11);
        fitsInto(3, 1, 1, 15, 7, 1, 15);
        fitsInto(0, 2, 0, 11, 11, 3, 15);
        fitsInto(3, 0, 2, 15, 15, 11, 8);
        Yard x = with(sheetSize(12, 24), plate(0, 1, 1, 16777215, 1, 0, 0, 0, 0, 0, 0, 0, 0, 0, 1));
        Check.due("the largest one, turned", x.nest(0), 1);
        pieceIs(x, 0, 0, 0, 0, 0, 1);
        Check.due("its last row", x.sheet(0, 2), 24);
        x = with(sheetSize(12, 23), plate(0, 1, 1, 16777215, 1, 0, 0, 0, 0, 0, 0, 0, 0, 0, 1));
        Check.due("too large even when turned", x.nest(0), 0);
        pieceIsLeft(x, 0, 0);
    }

    private static void notTurned() {
        Check.says("turn (0 alone, if the PLATE may not be turned)");
        Yard x = with(sheetSize(2, 3), plate(0, 1, 0, 7));
        Check.due("it may not be turned", x.nest(0), 0);
        pieceIsLeft(x, 0, 0);
        change(x, plate(0, 1, 1, 7));
        Check.due("it may be turned", x.nest(0), 1);
        pieceIs(x, 0, 0, 0, 0, 0, 1);
        x = with(sheetSize(3, 2), plate(0, 2, 0, 3, 1));
        x.nest(0);
        pieceIs(x, 0, 0, 0, 0, 0, 0);
        pieceIs(x, 1, 0, 1, 0, 0, 0);
        change(x, plate(0, 2, 1, 3, 1));
        x.nest(0);
        pieceIs(x, 1, 0, 0, 1, 0, 2);
    }

    private static void inTurn() {
        Check.says("PIECES are all that is wanted of PLATES, PLATES with more cells first, then by number, "
                + "those of one PLATE one behind the other");
        Yard x = with(sheetSize(64, 48), plate(0, 2, 0, 3), plate(1, 1, 0, 7), plate(2, 1, 0, 1, 1), plate(3, 0, 0, 255),
                plate(5, 1, 0, 1), plate(7, 4, 1, 5, 2));
        Check.due("nest", x.nest(0), 9);
        int[] due = {1, 7, 7, 7, 7, 0, 0, 2, 5};
        for (int k = 0; k < due.length; k++) {
            Check.due("the PLATE of PIECE " + k, x.piece(k, 0), due[k]);
        }
        Check.due("none such", x.piece(9, 0), BAD);
        x = with(sheetSize(64, 48), plate(0, 1, 0, 1, 0, 0, 0, 0, 0, 0, 0, 0, 0, 0, 8388608), plate(7, 1, 0, 1 << 23, 1, 1));
        x.nest(0);
        Check.due("three cells, of all rows and bits", x.piece(0, 0), 7);
        Check.due("two cells, of all rows and bits", x.piece(1, 0), 0);
        x = with(sheetSize(64, 48), plate(0, 1, 0, 3), plate(1, 3, 1, 3), plate(2, 2, 0, 3));
        x.nest(0);
        int[] alike = {0, 1, 1, 1, 2, 2};
        for (int k = 0; k < alike.length; k++) {
            Check.due("by number, however many are wanted: PIECE " + k, x.piece(k, 0), alike[k]);
        }
    }

    private static void mostPieces() {
        Check.says("12 how many are wanted (0 .. 4)");
        int[][] rows = new int[9][];
        for (int p = 0; p < 8; p++) {
            rows[p] = plate(p, 4, 1, 16777215, 16777215, 16777215, 16777215, 16777215, 16777215, 16777215, 16777215, 16777215,
                    16777215, 16777215, 16777215);
        }
        rows[8] = sheetSize(64, 48);
        Yard x = with(rows);
        Check.due("four of each", x.nest(0), 32);
        for (int k = 0; k < 32; k++) {
            Check.due("the PLATE of PIECE " + k, x.piece(k, 0), k / 4);
        }
        Check.due("none such", x.piece(32, 0), BAD);
        pieceIs(x, 0, 0, 0, 0, 0, 0);
        pieceIs(x, 1, 0, 0, 24, 0, 0);
        // Turned, one of 12 by 24 goes beside these.
        pieceIs(x, 2, 0, 0, 48, 0, 1);
        Check.due("ten on a SHEET", x.sheet(0, 0), 10);
        Check.due("the SHEET of the last PIECE", x.piece(31, 1), 3);
    }

    private static void sixSheets() {
        Check.says("SHEETS 0 .. 5 are of the YARD's cells");
        Yard x = with(plate(0, 4, 0, 1), plate(1, 4, 0, 1));
        Check.due("six of eight", x.nest(0), 6);
        for (int k = 0; k < 6; k++) {
            pieceIs(x, k, k / 4, k, 0, 0, 0);
            sheetIs(x, k, 1, 1, 1, 4, 0, 0);
        }
        Check.says("Or it is LEFT");
        pieceIsLeft(x, 6, 1);
        pieceIsLeft(x, 7, 1);
        Check.due("none such", x.piece(8, 0), BAD);
        Check.due("none such", x.piece(8, 1), BAD);
        x = with(sheetSize(2, 1), plate(0, 4, 0, 3), plate(1, 4, 0, 3), plate(2, 1, 0, 1));
        Check.due("two of two cells and one of one are LEFT", x.nest(0), 6);
        pieceIsLeft(x, 8, 2);
        x = with(sheetSize(2, 1), plate(0, 4, 0, 7), plate(2, 1, 0, 1));
        Check.due("a smaller one behind those that are LEFT", x.nest(0), 1);
        pieceIsLeft(x, 3, 0);
        pieceIs(x, 4, 2, 0, 0, 0, 0);
    }

    private static void onTheSheet() {
        Check.says("all its cells (moved by x, y; none of its own is below 0) lie on the SHEET");
        int[][] sizes = {{3, 2, 1}, {2, 2, 0}, {3, 1, 0}, {4, 2, 1}};
        for (int[] size : sizes) {
            Yard x = with(sheetSize(size[0], size[1]), plate(4, 1, 0, 7, 5));
            Check.due("3 by 2 cells on " + size[0] + " by " + size[1], x.nest(0), size[2]);
        }
        Yard x = with(sheetSize(64, 1), plate(0, 2, 0, 16777215), plate(1, 1, 0, 65535));
        Check.due("up to the end of 64", x.nest(0), 3);
        pieceIs(x, 2, 1, 0, 48, 0, 0);
        sheetIs(x, 0, 3, 64, 1, 64 + 64 + 4, 0, 0);
        change(x, plate(1, 1, 0, 131071));
        x.nest(0);
        pieceIs(x, 2, 1, 1, 0, 0, 0);
        x = with(sheetSize(1, 48), plate(0, 4, 0, 1, 1, 1, 1, 1, 1, 1, 1, 1, 1, 1, 1));
        Check.due("up to the end of 48", x.nest(0), 4);
        pieceIs(x, 3, 0, 0, 0, 36, 0);
        sheetIs(x, 0, 4, 48, 48, 96 + 5, 0, 0);
        // A cell at 0, 1 and one at 1, 0: neither x nor y may be below 0, though cell 0, 0 is free.
        x = with(sheetSize(2, 2), plate(0, 4, 0, 2, 1), plate(1, 4, 0, 1, 2));
        x.nest(0);
        pieceIs(x, 0, 0, 0, 0, 0, 0);
        pieceIs(x, 4, 1, 0, 0, 0, 0);
        pieceIs(x, 1, 0, 1, 0, 0, 0);
    }

    private static void firstPlaces() {
        Check.says("each PIECE in turn gets the first of its PLACES, by SHEET, y, x, turn");
        Yard x = with(sheetSize(2, 2), plate(0, 4, 0, 1), plate(1, 1, 0, 1));
        x.nest(0);
        int[][] due = {{0, 0, 0}, {0, 1, 0}, {0, 0, 1}, {0, 1, 1}, {1, 0, 0}};
        for (int k = 0; k < 5; k++) {
            pieceIs(x, k, k / 4, due[k][0], due[k][1], due[k][2], 0);
        }
        // Over the plate of three cells there is room at 2, 0 for a turned one, at 1, 1 for one that is not.
        x = with(sheetSize(3, 2), plate(0, 1, 0, 3, 1), plate(1, 1, 1, 3));
        x.nest(0);
        pieceIs(x, 1, 1, 0, 2, 0, 1);
        // y ahead of x.
        x = with(sheetSize(3, 2), plate(0, 1, 0, 3), plate(1, 1, 0, 1));
        x.nest(0);
        pieceIs(x, 1, 1, 0, 2, 0, 0);
        // x ahead of turn: at 0, 1 turn 1 alone fits, at 1, 1 turn 0 does.
        x = with(sheetSize(3, 3), plate(0, 1, 0, 7, 0, 2), plate(1, 1, 0, 1), plate(2, 1, 1, 3));
        x.nest(0);
        pieceIs(x, 1, 2, 0, 0, 1, 0);
        pieceIs(x, 2, 1, 0, 2, 1, 0);
        x = with(sheetSize(3, 3), plate(0, 1, 0, 7, 2, 0), plate(2, 1, 1, 3));
        x.nest(0);
        pieceIs(x, 1, 2, 0, 0, 1, 1);
        // Of turns that come to the same the first.
        x = with(sheetSize(1, 2), plate(0, 1, 1, 3));
        x.nest(0);
        pieceIs(x, 0, 0, 0, 0, 0, 1);
        x = with(sheetSize(2, 2), plate(0, 1, 1, 3, 3));
        x.nest(0);
        pieceIs(x, 0, 0, 0, 0, 0, 0);
        // A later piece goes back to a lesser SHEET.
        x = with(sheetSize(3, 1), plate(0, 2, 0, 3), plate(1, 2, 0, 1));
        x.nest(0);
        pieceIs(x, 1, 0, 1, 0, 0, 0);
        pieceIs(x, 2, 1, 0, 2, 0, 0);
        pieceIs(x, 3, 1, 1, 2, 0, 0);
    }

    private static void gaps() {
        Check.says("none is, in x and in y, GAP or less from a cell of a PIECE before it");
        for (int gap = 0; gap <= 3; gap++) {
            Yard x = with(sheetSize(2 * gap + 2, 1), plate(0, 4, 0, 1));
            Check.due("nest(" + gap + ")", x.nest(gap), 4);
            pieceIs(x, 0, 0, 0, 0, 0, 0);
            pieceIs(x, 1, 0, 0, gap + 1, 0, 0);
            pieceIs(x, 2, 0, 1, 0, 0, 0);
            x = with(sheetSize(1, 2 * gap + 2), plate(0, 4, 0, 1));
            x.nest(gap);
            pieceIs(x, 1, 0, 0, 0, gap + 1, 0);
            pieceIs(x, 2, 0, 1, 0, 0, 0);
            x = with(sheetSize(gap + 1, gap + 1), plate(0, 4, 0, 1));
            x.nest(gap);
            pieceIs(x, 1, 0, 1, 0, 0, 0);
        }
    }

    private static void gapsAllRound() {
        Check.says("none is, in x and in y, GAP or less from a cell of a PIECE before it");
        Yard x = with(sheetSize(3, 3), plate(0, 4, 0, 1), plate(1, 1, 0, 1));
        Check.due("nest(1)", x.nest(1), 5);
        int[][] due = {{0, 0, 0}, {0, 2, 0}, {0, 0, 2}, {0, 2, 2}, {1, 0, 0}};
        for (int k = 0; k < 5; k++) {
            pieceIs(x, k, k / 4, due[k][0], due[k][1], due[k][2], 0);
        }
        // Two in x, one in y is far enough; one in x, one in y is not.
        x = with(sheetSize(3, 2), plate(0, 1, 0, 1, 1), plate(1, 1, 0, 1));
        x.nest(1);
        pieceIs(x, 1, 1, 0, 2, 0, 0);
        x = with(sheetSize(5, 5), plate(0, 1, 0, 4, 0, 31, 0, 4), plate(1, 4, 0, 1));
        x.nest(1);
        pieceIs(x, 1, 1, 0, 0, 0, 0);
        pieceIs(x, 2, 1, 0, 4, 0, 0);
        pieceIs(x, 3, 1, 0, 0, 4, 0);
        pieceIs(x, 4, 1, 0, 4, 4, 0);
        x = with(sheetSize(5, 5), plate(0, 1, 0, 4, 0, 31, 0, 4), plate(1, 1, 0, 1));
        x.nest(2);
        pieceIs(x, 1, 1, 1, 0, 0, 0);
        // Ahead of and above a PIECE, too: a hole in the middle.
        x = with(sheetSize(7, 7), plate(0, 1, 0, 127, 65, 65, 65, 65, 65, 127), plate(1, 2, 0, 1));
        x.nest(2);
        pieceIs(x, 1, 1, 0, 3, 3, 0);
        pieceIs(x, 2, 1, 1, 0, 0, 0);
        x.nest(3);
        pieceIs(x, 1, 1, 1, 0, 0, 0);
    }

    private static void noGapElsewhere() {
        Check.says("from a cell of a PIECE before it");
        Yard x = with(sheetSize(3, 1), plate(0, 1, 0, 5));
        Check.due("not from its own cells, nor the SHEET's ends", x.nest(3), 1);
        x = with(sheetSize(4, 1), plate(0, 2, 0, 1));
        Check.due("not from those of another SHEET", x.nest(3), 2);
        pieceIs(x, 1, 0, 1, 0, 0, 0);
        x = with(sheetSize(64, 48), plate(0, 2, 0, 16777215), plate(1, 1, 0, 2047));
        Check.due("up to the end of 64", x.nest(3), 3);
        pieceIs(x, 1, 0, 0, 27, 0, 0);
        pieceIs(x, 2, 1, 0, 0, 4, 0);
        x = with(sheetSize(64, 48), plate(0, 2, 0, 16777215), plate(1, 1, 0, 1023));
        x.nest(3);
        pieceIs(x, 2, 1, 0, 54, 0, 0);
        // The last PIECE of the first SHEET reaches down to its last row, 47; the next SHEET's first row is free.
        x = with(sheetSize(1, 48), plate(0, 3, 0, 1, 1, 1, 1, 1, 1, 1, 1, 1, 1, 1, 1), plate(1, 1, 0, 1, 1, 1, 1, 1, 1, 1, 1, 1),
                plate(2, 1, 0, 1));
        Check.due("down to the end of 48", x.nest(1), 5);
        pieceIs(x, 3, 1, 0, 0, 39, 0);
        pieceIs(x, 4, 2, 1, 0, 0, 0);
        Check.due("the first SHEET's rows", x.sheet(0, 2), 48);
    }

    private static void nestAnswers() {
        Check.says("PIECES get their PLACES, GAP 0 .. 3: how many have one. BAD");
        Yard x = with(sheetSize(3, 1), plate(0, 2, 0, 3));
        for (int gap : new int[] {-1, 4, Integer.MIN_VALUE, Integer.MAX_VALUE}) {
            Check.due("nest(" + gap + ")", x.nest(gap), BAD);
            Check.due("nothing is worked out", x.piece(0, 0), NO);
        }
        for (int gap = 0; gap <= 3; gap++) {
            Check.due("nest(" + gap + ")", x.nest(gap), 2);
        }
        Check.due("BAD", x.nest(4), BAD);
        Check.due("what was worked out stays", x.piece(1, 1), 1);
        Check.due("no PLATES", new Yard().nest(0), 0);
        Check.due("none wanted", with(plate(0, 0, 0, 1)).nest(0), 0);
        x = with(sheetSize(3, 1), plate(0, 2, 0, 1));
        x.nest(1);
        Check.due("GAP 1", x.piece(1, 2), 2);
        x.nest(0);
        Check.due("GAP 0 anew", x.piece(1, 2), 1);
        x.nest(2);
        Check.due("GAP 2 anew", x.piece(1, 1), 1);
        Check.due("GAP 2 anew", x.sheet(0, 1), 1);
    }

    private static void pieceAnswers() {
        Check.says("BAD: another what, k below 0; then NO: not worked out; BAD: none such; NO: it is LEFT (1 to 4)");
        Yard x = with(sheetSize(2, 1), plate(3, 1, 0, 3), plate(4, 1, 0, 7));
        for (int k : new int[] {0, 1, 2, 31, 32, Integer.MAX_VALUE}) {
            Check.due("not worked out: piece(" + k + ", 0)", x.piece(k, 0), NO);
        }
        for (int k : new int[] {-1, Integer.MIN_VALUE}) {
            Check.due("not worked out: piece(" + k + ", 0)", x.piece(k, 0), BAD);
        }
        for (int what : new int[] {-1, 5, Integer.MIN_VALUE, Integer.MAX_VALUE}) {
            Check.due("not worked out: piece(0, " + what + ")", x.piece(0, what), BAD);
        }
        x.nest(0);
        for (int k : new int[] {-1, 2, 31, 32, Integer.MAX_VALUE, Integer.MIN_VALUE}) {
            Check.due("piece(" + k + ", 0)", x.piece(k, 0), BAD);
            Check.due("piece(" + k + ", 1)", x.piece(k, 1), BAD);
        }
        for (int what : new int[] {-1, 5, Integer.MIN_VALUE, Integer.MAX_VALUE}) {
            Check.due("piece(0, " + what + ")", x.piece(0, what), BAD);
        }
        pieceIsLeft(x, 0, 4);
        pieceIs(x, 1, 3, 0, 0, 0, 0);
        x = new Yard();
        x.nest(0);
        Check.due("no PIECES", x.piece(0, 0), BAD);
    }

    private static void sheetAnswers() {
        Check.says("0 PIECES, 1 cells that they have, 2 the greatest y of these and 1 more (0), 3 EDGES, 4 RESTS, "
                + "5 cells of the greatest RESTS (0). BAD; NO: not worked out");
        Yard x = with(sheetSize(4, 3), plate(0, 1, 0, 3, 1));
        Check.due("not worked out", x.sheet(0, 0), NO);
        Check.due("not worked out", x.sheet(5, 5), NO);
        int[][] bad = {{-1, 0}, {6, 0}, {0, -1}, {0, 6}, {Integer.MAX_VALUE, 0}, {0, Integer.MIN_VALUE}};
        for (int[] b : bad) {
            Check.due("not worked out: sheet(" + b[0] + ", " + b[1] + ")", x.sheet(b[0], b[1]), BAD);
        }
        x.nest(0);
        for (int[] b : bad) {
            Check.due("sheet(" + b[0] + ", " + b[1] + ")", x.sheet(b[0], b[1]), BAD);
        }
        sheetIs(x, 0, 1, 3, 2, 8, 1, 9);
        for (int s = 1; s < 6; s++) {
            sheetIs(x, s, 0, 0, 0, 0, 1, 12);
        }
        x = with(sheetSize(4, 3), plate(0, 1, 0, 3, 0, 1));
        x.nest(0);
        Check.due("a row between is free", x.sheet(0, 2), 3);
        x = new Yard();
        x.nest(0);
        sheetIs(x, 0, 0, 0, 0, 0, 1, 1);
        x = with(sheetSize(64, 48));
        x.nest(0);
        sheetIs(x, 5, 0, 0, 0, 0, 1, 3072);
    }

    private static void edges() {
        Check.says("EDGES of a SHEET: the sides of its PIECES' cells with another PIECE's cell, no cell, or the SHEET's end beyond, "
                + "each side once");
        Yard x = with(sheetSize(2, 1), plate(0, 1, 0, 3));
        x.nest(0);
        Check.due("one PIECE, the SHEET's ends all round", x.sheet(0, 3), 6);
        x = with(sheetSize(2, 1), plate(0, 2, 0, 1));
        x.nest(0);
        Check.due("two PIECES side by side", x.sheet(0, 3), 7);
        x = with(sheetSize(1, 2), plate(0, 2, 0, 1));
        x.nest(0);
        Check.due("one above the other", x.sheet(0, 3), 7);
        x = with(sheetSize(3, 1), plate(0, 2, 0, 1));
        x.nest(1);
        Check.due("two PIECES apart", x.sheet(0, 3), 8);
        x = with(sheetSize(5, 5), plate(0, 1, 0, 7, 5, 7));
        x.nest(0);
        Check.due("a hole", x.sheet(0, 3), 16);
        x = with(sheetSize(3, 3), plate(0, 1, 0, 7, 5, 7), plate(1, 1, 0, 1));
        x.nest(0);
        Check.due("another PIECE in the hole", x.sheet(0, 3), 16);
        x = with(sheetSize(2, 2), plate(0, 2, 1, 1, 2), plate(1, 1, 0, 1));
        x.nest(0);
        Check.due("corners that touch", x.sheet(0, 3), 12);
        x = with(sheetSize(64, 48), plate(0, 1, 0, 16777215, 16777215));
        x.nest(0);
        Check.due("inner sides are none", x.sheet(0, 3), 52);
    }

    private static void rests() {
        Check.says("RESTS: groups of cells without a PIECE that hang together by sides");
        Yard x = with(sheetSize(2, 2), plate(0, 1, 0, 1, 2));
        x.nest(0);
        sheetIs(x, 0, 1, 2, 2, 8, 2, 1);
        x = with(sheetSize(2, 1), plate(0, 1, 0, 3));
        x.nest(0);
        sheetIs(x, 0, 1, 2, 1, 6, 0, 0);
        x = with(sheetSize(5, 4), plate(0, 1, 0, 7, 5, 7));
        x.nest(0);
        sheetIs(x, 0, 1, 8, 3, 16, 2, 11);
        x = with(sheetSize(3, 5), plate(0, 1, 0, 7, 0, 0, 7));
        x.nest(0);
        sheetIs(x, 0, 1, 6, 4, 16, 2, 6);
        // A winding row of cells hangs together.
        x = with(sheetSize(5, 5), plate(0, 1, 0, 15, 0, 30, 0, 15));
        x.nest(0);
        sheetIs(x, 0, 1, 12, 5, 30, 1, 13);
        // Of three groups the second is the greatest, then the first, then the last.
        x = with(sheetSize(7, 2), plate(0, 1, 0, 37, 37));
        x.nest(0);
        sheetIs(x, 0, 1, 6, 2, 18, 3, 4);
        x = with(sheetSize(6, 2), plate(0, 1, 0, 20, 21));
        x.nest(0);
        sheetIs(x, 0, 1, 5, 2, 16, 3, 3);
        x = with(sheetSize(7, 2), plate(0, 1, 0, 5, 5));
        x.nest(0);
        sheetIs(x, 0, 1, 4, 2, 12, 2, 8);
        // From the first cell down, along the last row, and up again.
        x = with(sheetSize(4, 3), plate(0, 1, 0, 5, 4));
        x.nest(0);
        sheetIs(x, 0, 1, 3, 2, 10, 1, 9);
        // One SHEET after the other.
        x = with(sheetSize(2, 2), plate(0, 1, 0, 3, 3), plate(1, 1, 0, 1, 2));
        x.nest(0);
        sheetIs(x, 2, 0, 0, 0, 0, 1, 4);
        sheetIs(x, 1, 1, 2, 2, 8, 2, 1);
        sheetIs(x, 0, 1, 4, 2, 8, 0, 0);
    }

    // ---- rods

    private static Yard rods(int bar, int cut, int... lengths) {
        Yard x = new Yard();
        x.open(0);
        x.put(0, 0, 0, 2, bar);
        x.put(0, 0, 0, 3, cut);
        for (int k = 0; k < lengths.length; k++) {
            Check.due("put()", x.put(0, 11, k, 0, lengths[k]), 1);
        }
        Check.due("commit", x.commit(0), 1);
        return x;
    }

    private static void rodsAre(Yard x, int bars, int... of) {
        Check.due("bars()", x.bars(), bars);
        for (int k = 0; k < of.length; k++) {
            Check.due("rod(" + k + ")", x.rod(k), of[k]);
        }
    }

    private static void lengthsAndCuts() {
        Check.says("lengths on a bar and a cut between each two are not more than it");
        rodsAre(rods(100, 10, 100), 1, 0);
        rodsAre(rods(100, 50, 100), 1, 0);
        rodsAre(rods(100, 10, 45, 45), 1, 0, 0);
        rodsAre(rods(100, 10, 45, 46), 2, 0, 1);
        rodsAre(rods(100, 11, 45, 45), 2, 0, 1);
        rodsAre(rods(100, 10, 30, 30, 20), 1, 0, 0, 0);
        rodsAre(rods(100, 10, 30, 30, 21), 2, 0, 0, 1);
        rodsAre(rods(100, 0, 50, 50), 1, 0, 0);
        rodsAre(rods(100, 0, 50, 51), 2, 0, 1);
        rodsAre(rods(9, 0, 1, 1, 1, 1, 1, 1, 1, 1, 1), 1, 0, 0, 0, 0, 0, 0, 0, 0, 0);
        rodsAre(rods(17, 1, 1, 1, 1, 1, 1, 1, 1, 1, 1), 1, 0, 0, 0, 0, 0, 0, 0, 0, 0);
        rodsAre(rods(16, 1, 1, 1, 1, 1, 1, 1, 1, 1, 1), 2, 0, 0, 0, 0, 0, 0, 0, 0, 1);
        rodsAre(rods(4000, 50, 1975, 1975, 4000), 2, 0, 0, 1);
        rodsAre(rods(4000, 50, 1975, 1976, 4000), 3, 0, 1, 2);
        Check.says("0 length (0 none");
        rodsAre(rods(100, 10, 0, 45, 0, 45), 1, NO, 0, NO, 0, NO);
    }

    private static void leastBars() {
        Check.says("bars(): the least number of bars that do");
        rodsAre(rods(10, 0, 4, 4, 6, 6), 2, 0, 1, 0, 1);
        rodsAre(rods(10, 0, 3, 3, 3, 7, 7, 7), 3, 0, 1, 2, 0, 1, 2);
        rodsAre(rods(12, 0, 3, 4, 5, 3, 4, 5, 3, 4, 5), 3, 0, 0, 0, 1, 1, 1, 2, 2, 2);
        rodsAre(rods(5, 0, 5, 5, 5, 5, 5, 5, 5, 5, 5), 9, 0, 1, 2, 3, 4, 5, 6, 7, 8);
        rodsAre(rods(5, 5, 1, 1, 1, 1, 1, 1, 1, 1, 1), 9, 0, 1, 2, 3, 4, 5, 6, 7, 8);
        rodsAre(new Yard(), 0, NO, NO, NO, NO, NO, NO, NO, NO, NO);
    }

    private static void firstRowOfBars() {
        Check.says("of all rows of numbers (of the bar of each ROD, by number, a new bar having the least number that none before it "
                + "has) for that many the first (smaller numbers are first)");
        rodsAre(rods(10, 0, 5, 5, 5), 2, 0, 0, 1);
        rodsAre(rods(10, 0, 6, 4, 4, 6), 2, 0, 0, 1, 1);
        rodsAre(rods(10, 0, 2, 8, 2, 8), 2, 0, 0, 1, 1);
        rodsAre(rods(10, 0, 2, 2, 8, 8), 2, 0, 1, 0, 1);
        rodsAre(rods(10, 0, 3, 3, 3, 3, 3), 2, 0, 0, 0, 1, 1);
        rodsAre(rods(10, 0, 9, 1, 9, 1), 2, 0, 0, 1, 1);
        rodsAre(rods(10, 0, 1, 0, 9, 0, 1, 0, 9), 2, 0, NO, 0, NO, 1, NO, 1);
        // Three bars do, whichever way: 1 goes on the first bar of all, though that leaves the others less.
        rodsAre(rods(10, 0, 6, 6, 6, 1, 4), 3, 0, 1, 2, 0, 1);
    }

    private static void longRods() {
        Check.says("None: a ROD is longer than a bar");
        rodsAre(rods(10, 0, 10), 1, 0);
        rodsAre(rods(10, 0, 11), NO, NO);
        rodsAre(rods(10, 0, 1, 1, 11), NO, NO, NO, NO);
        rodsAre(rods(10, 50, 0, 0, 0, 0, 0, 0, 0, 0, 11), NO, NO, NO, NO, NO, NO, NO, NO, NO, NO);
        rodsAre(rods(4000, 50, 0, 0, 0, 0, 0, 0, 0, 0, 4000), 1, NO, NO, NO, NO, NO, NO, NO, NO, 0);
        Yard x = rods(10, 0, 5, 5);
        rodsAre(x, 1, 0, 0);
        change(x, row(11, 8, 11));
        rodsAre(x, NO, NO, NO);
        change(x, row(11, 8, 10));
        rodsAre(x, 2, 0, 0, NO, NO, NO, NO, NO, NO, 1);
    }

    private static void rodAnswers() {
        Check.says("The bar of a ROD. BAD; NO: it has no length; not worked out, or none did");
        Yard x = rods(10, 0, 5, 0, 5);
        for (int k : new int[] {-1, 9, Integer.MIN_VALUE, Integer.MAX_VALUE}) {
            Check.due("rod(" + k + ")", x.rod(k), BAD);
        }
        Check.due("not worked out", x.rod(0), NO);
        Check.due("bars()", x.bars(), 1);
        for (int k : new int[] {-1, 9, Integer.MIN_VALUE, Integer.MAX_VALUE}) {
            Check.due("rod(" + k + ")", x.rod(k), BAD);
        }
        Check.due("rod(0)", x.rod(0), 0);
        Check.due("no length", x.rod(1), NO);
        Check.due("no length", x.rod(8), NO);
        x.open(0);
        x.commit(0);
        Check.due("not worked out since", x.rod(0), NO);
    }

    // ---- pipes

    private static int[] pipe(int i, int x, int y, int z, int tox, int toy, int toz, int gap) {
        return row(9, i, 1, x, y, z, tox, toy, toz, gap);
    }

    private static int[] solid(int i, int x, int tox, int y, int toy, int z, int toz) {
        return row(8, i, 1, x, tox, y, toy, z, toz);
    }

    /** A way by its cost, bends, and steps as digits. */
    private static void wayIs(Yard x, int pipe, int cost, int bends, String steps) {
        Check.due("way(" + pipe + ", 0)", x.way(pipe, 0), cost);
        Check.due("way(" + pipe + ", 1)", x.way(pipe, 1), steps.length());
        Check.due("way(" + pipe + ", 2)", x.way(pipe, 2), bends);
        for (int k = 0; k < steps.length(); k++) {
            Check.due("step(" + pipe + ", " + k + ")", x.step(pipe, k), steps.charAt(k) - '0');
        }
        Check.due("step(" + pipe + ", " + steps.length() + ")", x.step(pipe, steps.length()), BAD);
    }

    private static void noWay(Yard x, int pipe) {
        for (int what = 0; what < 3; what++) {
            Check.due("way(" + pipe + ", " + what + ")", x.way(pipe, what), NO);
        }
        Check.due("step(" + pipe + ", 0)", x.step(pipe, 0), NO);
    }

    private static void wholeGrid() {
        Check.says("PIPES have cells of a grid, x 0 .. 19, y 0 .. 9, z 0 .. 7");
        Yard x = with(pipe(0, 0, 0, 0, 19, 9, 7, 0));
        Check.due("lead()", x.lead(), 1);
        wayIs(x, 0, 2 * 28 + 3 * 7 + 6, 2, "0".repeat(19) + "2".repeat(9) + "4".repeat(7));
        x = with(pipe(5, 19, 9, 7, 0, 0, 0, 1));
        Check.due("lead()", x.lead(), 1);
        wayIs(x, 5, 2 * 28 + 3 * 7 + 6, 2, "1".repeat(19) + "3".repeat(9) + "5".repeat(7));
        // Nothing leads round beyond the grid's ends.
        x = with(pipe(0, 0, 0, 0, 19, 0, 0, 0), solid(0, 5, 5, 0, 9, 0, 7));
        Check.due("a wall along x", x.lead(), 0);
        x = with(pipe(0, 0, 0, 0, 0, 9, 0, 0), solid(0, 0, 19, 5, 5, 0, 7));
        Check.due("a wall along y", x.lead(), 0);
        x = with(pipe(0, 0, 0, 0, 0, 0, 7, 0), solid(0, 0, 19, 0, 9, 5, 5));
        Check.due("a wall along z", x.lead(), 0);
        noWay(x, 0);
        x = with(pipe(0, 0, 0, 0, 19, 0, 0, 0), solid(0, 5, 5, 0, 8, 0, 7), solid(11, 5, 5, 9, 9, 0, 6));
        Check.due("one cell of a wall is free", x.lead(), 1);
        Check.due("its steps", x.way(0, 1), 19 + 18 + 14);
    }

    private static void costs() {
        Check.says("It costs 2 for each step, 1 more for each of 4 and 5, 3 for each BEND (a step other than the one before it)");
        Yard x = with(pipe(0, 0, 0, 0, 1, 0, 0, 0), pipe(1, 5, 1, 0, 4, 1, 0, 0), pipe(2, 0, 2, 0, 0, 3, 0, 0),
                pipe(3, 0, 5, 0, 0, 4, 0, 0), pipe(4, 9, 9, 0, 9, 9, 1, 0), pipe(5, 9, 7, 1, 9, 7, 0, 0));
        Check.due("lead()", x.lead(), 6);
        for (int i = 0; i < 6; i++) {
            wayIs(x, i, i < 4 ? 2 : 3, 0, "" + i);
        }
        x = with(pipe(0, 3, 3, 3, 4, 4, 3, 0), pipe(1, 8, 3, 3, 9, 3, 4, 0), pipe(2, 0, 8, 7, 3, 8, 7, 0));
        x.lead();
        wayIs(x, 0, 7, 1, "02");
        wayIs(x, 1, 8, 1, "04");
        wayIs(x, 2, 6, 0, "000");
        // Over the wall two steps cost 3 each, round it four steps cost 2 each; both have two bends.
        x = with(pipe(0, 0, 5, 0, 4, 5, 0, 0), solid(0, 2, 2, 4, 9, 0, 0));
        x.lead();
        wayIs(x, 0, 8 + 6 + 6, 2, "400005");
        // Over the wall four steps cost 3 each, round it six steps cost 2 each: as much, and 3 is less than 4.
        x = with(pipe(0, 0, 5, 0, 4, 5, 0, 0), solid(0, 2, 2, 3, 9, 0, 1));
        x.lead();
        wayIs(x, 0, 8 + 12 + 6, 2, "3330000222");
    }

    private static void firstWay() {
        Check.says("lead(): the WAY that costs least; of several the first, as rows of steps (smaller numbers are first)");
        Yard x = with(pipe(0, 0, 0, 0, 2, 2, 0, 0), pipe(1, 9, 9, 0, 7, 7, 0, 0), pipe(2, 12, 0, 0, 12, 2, 2, 0),
                pipe(3, 15, 5, 7, 17, 5, 5, 0), pipe(4, 0, 5, 3, 1, 6, 4, 0), pipe(5, 19, 9, 7, 18, 8, 6, 0));
        Check.due("lead()", x.lead(), 6);
        wayIs(x, 0, 11, 1, "0022");
        wayIs(x, 1, 11, 1, "1133");
        wayIs(x, 2, 13, 1, "2244");
        wayIs(x, 3, 13, 1, "0055");
        wayIs(x, 4, 13, 2, "024");
        wayIs(x, 5, 13, 2, "135");
        // The way along x first is barred: the other one.
        x = with(pipe(0, 0, 0, 0, 2, 2, 0, 0), solid(0, 2, 2, 0, 0, 0, 7));
        x.lead();
        wayIs(x, 0, 11, 1, "2200");
        // Both are barred: one bend more, and of those the first.
        x = with(pipe(0, 0, 0, 0, 2, 2, 0, 0), solid(0, 2, 2, 0, 0, 0, 7), solid(1, 0, 0, 2, 2, 0, 7));
        x.lead();
        wayIs(x, 0, 14, 2, "0220");
        // A step more to spare a bend would cost as much or more: fewer steps are no better than cost.
        x = with(pipe(0, 0, 0, 0, 4, 0, 0, 0), solid(0, 2, 2, 0, 0, 0, 0));
        x.lead();
        wayIs(x, 0, 18, 2, "200003");
    }

    private static void barredBySolids() {
        Check.says("A cell is BARRED for a PIPE, if a SOLID's cell .. is in x, in y and in z its GAP or less from it");
        int[][] ends = {{10, 5, 4, 0}, {11, 5, 4, 1}, {9, 5, 4, 1}, {10, 6, 4, 1}, {10, 4, 4, 1}, {10, 5, 5, 1}, {10, 5, 3, 1},
            {11, 6, 5, 1}, {9, 4, 3, 1}, {12, 5, 4, 2}, {8, 5, 4, 2}, {10, 7, 4, 2}, {10, 3, 4, 2}, {10, 5, 6, 2}, {10, 5, 2, 2},
            {12, 6, 5, 2}};
        for (int[] e : ends) {
            for (int gap = 0; gap <= 1; gap++) {
                Yard x = with(pipe(0, e[0], e[1], e[2], e[0], e[1], e[2], gap), solid(11, 10, 10, 5, 5, 4, 4));
                Check.due("cell " + e[0] + ", " + e[1] + ", " + e[2] + " by GAP " + gap, x.lead(), e[3] <= gap ? 0 : 1);
            }
        }
        // Beyond the grid's end there is nothing, so nothing is BARRED at the other end.
        int[][] corners = {{19, 9, 3, 0, 9, 3}, {19, 8, 3, 0, 9, 3}, {0, 9, 3, 19, 8, 3}, {5, 9, 3, 5, 0, 4}, {5, 0, 4, 5, 9, 3},
            {5, 5, 0, 5, 5, 7}, {5, 5, 7, 5, 5, 0}, {0, 5, 5, 19, 5, 5}, {0, 0, 0, 19, 9, 7}, {19, 9, 7, 0, 0, 0}};
        for (int[] c : corners) {
            Yard x = with(pipe(0, c[3], c[4], c[5], c[3], c[4], c[5], 1), solid(0, c[0], c[0], c[1], c[1], c[2], c[2]));
            Check.due("cell " + c[3] + ", " + c[4] + ", " + c[5], x.lead(), 1);
        }
        Yard x = with(pipe(0, 0, 0, 0, 4, 0, 0, 0), row(8, 0, 0, 2, 2, 0, 9, 0, 7));
        Check.due("a SOLID that is not there", x.lead(), 1);
        x = with(pipe(0, 0, 1, 0, 4, 1, 0, 0), solid(0, 0, 19, 0, 0, 0, 7));
        x.lead();
        wayIs(x, 0, 8, 0, "0000");
        x = with(pipe(0, 0, 1, 0, 4, 1, 0, 1), solid(0, 0, 19, 0, 0, 0, 7));
        Check.due("too near by GAP 1", x.lead(), 0);
        x = with(pipe(0, 0, 2, 0, 4, 2, 0, 1), solid(0, 0, 19, 0, 0, 0, 7));
        Check.due("far enough by GAP 1", x.lead(), 1);
        x = with(pipe(0, 0, 0, 0, 4, 0, 0, 0), solid(0, 0, 19, 0, 9, 0, 7));
        Check.due("all cells", x.lead(), 0);
    }

    private static void barredByPipes() {
        Check.says("or one of a PIPE that was led before it (the way's cells, both ends)");
        Yard x = with(pipe(0, 2, 5, 0, 4, 5, 0, 0), pipe(1, 2, 5, 0, 2, 5, 0, 0), pipe(2, 3, 5, 0, 3, 5, 0, 0),
                pipe(3, 4, 5, 0, 4, 5, 0, 0), pipe(4, 1, 5, 0, 1, 5, 0, 0), pipe(5, 5, 5, 0, 5, 5, 0, 0));
        Check.due("the first and those beside it", x.lead(), 3);
        noWay(x, 1);
        noWay(x, 2);
        noWay(x, 3);
        wayIs(x, 4, 0, 0, "");
        wayIs(x, 5, 0, 0, "");
        Check.says("its GAP or less from it");
        x = with(pipe(0, 2, 5, 0, 4, 5, 0, 1), pipe(1, 3, 6, 0, 3, 6, 0, 0), pipe(2, 9, 9, 0, 9, 9, 0, 0),
                pipe(3, 9, 8, 0, 9, 8, 0, 1), pipe(4, 10, 8, 1, 10, 8, 1, 1), pipe(5, 11, 8, 1, 11, 8, 1, 1));
        x.lead();
        wayIs(x, 1, 0, 0, "");
        wayIs(x, 2, 0, 0, "");
        noWay(x, 3);
        noWay(x, 4);
        wayIs(x, 5, 0, 0, "");
        Check.says("PIPES .. are led by number");
        x = with(pipe(0, 0, 0, 0, 4, 0, 0, 0), pipe(1, 2, 0, 0, 2, 3, 0, 0));
        Check.due("lead()", x.lead(), 1);
        wayIs(x, 0, 8, 0, "0000");
        noWay(x, 1);
        x = with(pipe(1, 0, 0, 0, 4, 0, 0, 0), pipe(0, 2, 0, 0, 2, 3, 0, 0));
        Check.due("lead()", x.lead(), 2);
        wayIs(x, 0, 6, 0, "222");
        Check.due("a way round it", x.way(1, 0) > 8 ? 1 : 0, 1);
        Check.says("a PIPE that was led before it");
        x = with(pipe(0, 0, 0, 0, 4, 0, 0, 0), solid(0, 4, 4, 0, 0, 0, 0), pipe(1, 2, 0, 0, 2, 3, 0, 0),
                row(9, 2, 0, 7, 7, 7, 9, 7, 7), pipe(3, 8, 7, 7, 8, 7, 7, 1));
        Check.due("one that has no WAY bars nothing, nor one that is not there", x.lead(), 2);
        noWay(x, 0);
        wayIs(x, 1, 6, 0, "222");
        noWay(x, 2);
        wayIs(x, 3, 0, 0, "");
    }

    private static void barredEnds() {
        Check.says("over cells that are not BARRED (the ends too)");
        Yard x = with(solid(0, 0, 0, 0, 0, 0, 0), pipe(0, 0, 0, 0, 5, 0, 0, 0), pipe(1, 5, 0, 0, 0, 0, 0, 0),
                pipe(2, 1, 0, 0, 5, 5, 0, 1), pipe(3, 5, 5, 0, 1, 1, 1, 1), pipe(4, 2, 0, 0, 5, 0, 0, 1));
        Check.due("lead()", x.lead(), 1);
        for (int i = 0; i < 4; i++) {
            noWay(x, i);
        }
        wayIs(x, 4, 6, 0, "000");
    }

    private static void oneCell() {
        Check.says("If the ends are one: no steps");
        Yard x = with(pipe(0, 7, 7, 7, 7, 7, 7, 1));
        Check.due("it has a WAY", x.lead(), 1);
        wayIs(x, 0, 0, 0, "");
        x = with(pipe(0, 7, 7, 7, 7, 7, 7, 1), solid(0, 7, 7, 7, 7, 7, 7));
        Check.due("a cell that is BARRED", x.lead(), 0);
        noWay(x, 0);
        x = with(pipe(0, 2, 0, 0, 2, 0, 0, 0), pipe(1, 0, 0, 0, 4, 0, 0, 0));
        Check.due("lead()", x.lead(), 2);
        Check.due("its cell bars the others", x.way(1, 1), 6);
    }

    private static void wayAnswers() {
        Check.says("Of a PIPE: what = 0 what its WAY costs, 1 steps, 2 BENDS. BAD; NO: it has none, is not there; not worked out");
        Yard x = with(pipe(0, 0, 0, 0, 1, 1, 1, 0), pipe(5, 0, 0, 0, 9, 9, 7, 0));
        int[][] bad = {{-1, 0}, {6, 0}, {0, -1}, {0, 3}, {Integer.MIN_VALUE, 0}, {Integer.MAX_VALUE, 0}, {0, Integer.MAX_VALUE}};
        for (int[] b : bad) {
            Check.due("not worked out: way(" + b[0] + ", " + b[1] + ")", x.way(b[0], b[1]), BAD);
        }
        noWay(x, 0);
        x.lead();
        for (int[] b : bad) {
            Check.due("way(" + b[0] + ", " + b[1] + ")", x.way(b[0], b[1]), BAD);
        }
        wayIs(x, 0, 2 + 2 + 3 + 6, 2, "024");
        noWay(x, 1);
        noWay(x, 5);
        x.open(0);
        x.commit(0);
        noWay(x, 0);
    }

    private static void stepAnswers() {
        Check.says("Step k of a PIPE's WAY. BAD: no such PIPE, k below 0, or not below its steps; NO: as in way()");
        Yard x = with(pipe(0, 0, 0, 0, 3, 0, 0, 0), pipe(1, 5, 5, 5, 5, 5, 5, 0));
        int[][] bad = {{-1, 0}, {6, 0}, {0, -1}, {1, -1}, {5, -1}, {0, Integer.MIN_VALUE}, {Integer.MAX_VALUE, 0}};
        for (int[] b : bad) {
            Check.due("not worked out: step(" + b[0] + ", " + b[1] + ")", x.step(b[0], b[1]), BAD);
        }
        Check.due("not worked out", x.step(0, 0), NO);
        Check.due("not worked out", x.step(0, 3), NO);
        Check.due("not worked out", x.step(0, Integer.MAX_VALUE), NO);
        x.lead();
        for (int[] b : bad) {
            Check.due("step(" + b[0] + ", " + b[1] + ")", x.step(b[0], b[1]), BAD);
        }
        Check.due("the last step", x.step(0, 2), 0);
        Check.due("not below its steps", x.step(0, 3), BAD);
        Check.due("not below its steps", x.step(0, Integer.MAX_VALUE), BAD);
        Check.due("no steps", x.step(1, 0), BAD);
        Check.due("not there", x.step(2, 0), NO);
        Check.due("not there", x.step(5, Integer.MAX_VALUE), NO);
    }

    private static void leadAnswers() {
        Check.says("PIPES that are there are led: how many have a WAY");
        Check.due("none", new Yard().lead(), 0);
        Yard x = with(row(9, 0, 0, 0, 0, 0, 5, 5, 5), row(9, 5, 0, 0, 0, 0, 5, 5, 5));
        Check.due("none there", x.lead(), 0);
        int[][] rows = new int[6][];
        for (int i = 0; i < 6; i++) {
            rows[i] = pipe(i, 0, i, 0, 19, i, 0, 0);
        }
        x = with(rows);
        for (int round = 0; round < 3; round++) {
            Check.due("all six", x.lead(), 6);
            for (int i = 0; i < 6; i += 5) {
                wayIs(x, i, 38, 0, "0".repeat(19));
            }
        }
        change(x, pipe(0, 0, 9, 0, 1, 9, 1, 0));
        Check.due("all six", x.lead(), 6);
        wayIs(x, 0, 8, 1, "04");
        change(x, pipe(0, 0, 0, 0, 0, 0, 0, 0));
        Check.due("all six", x.lead(), 6);
        wayIs(x, 0, 0, 0, "");
        change(x, solid(0, 10, 10, 1, 9, 0, 7), solid(1, 10, 10, 0, 0, 0, 7));
        Check.due("the one cell alone", x.lead(), 1);
        for (int i = 1; i < 6; i++) {
            noWay(x, i);
        }
    }

    // ---- work

    private static Yard work(int hands, int cranes, int[]... tasks) {
        Yard x = new Yard();
        x.open(0);
        x.put(0, 0, 0, 6, hands);
        x.put(0, 0, 0, 7, cranes);
        putAll(x, tasks);
        Check.due("commit", x.commit(0), 1);
        return x;
    }

    private static int[] task(int t, int days, int hands, int cranes, int first, int ahead) {
        return row(10, t, days, hands, cranes, first, ahead);
    }

    /** The plan's last day, then of each task when it begins and its turn. */
    private static void planIs(Yard x, int end, int... beginsAndTurns) {
        Check.due("plan()", x.plan(), end);
        for (int t = 0; t < beginsAndTurns.length / 2; t++) {
            Check.due("task(" + t + ", 0)", x.task(t, 0), beginsAndTurns[2 * t]);
            Check.due("task(" + t + ", 1)", x.task(t, 1), beginsAndTurns[2 * t + 1]);
        }
    }

    private static void firstDays() {
        Check.says("begins on the least day, from its first one on");
        planIs(work(1, 1, task(0, 1, 0, 0, 0, 0)), 1, 0, 0);
        planIs(work(1, 1, task(0, 20, 1, 1, 40, 0)), 60, 40, 0);
        planIs(work(1, 1, task(0, 5, 1, 0, 3, 0), task(1, 3, 1, 0, 0, 0)), 8, 3, 0, 0, 1);
        planIs(work(1, 1, task(0, 5, 1, 0, 3, 0), task(1, 4, 1, 0, 0, 0)), 9, 4, 1, 0, 0);
        Check.says("(a TASK that begins on day d with n days ends with day d + n)");
        planIs(work(6, 6, task(0, 3, 1, 1, 2, 0), task(6, 4, 1, 1, 1, 0)), 5, 2, 0, NO, NO, NO, NO, NO, NO, NO, NO, NO, NO, 1, 1);
    }

    private static void endedAhead() {
        Check.says("by which those have ended");
        planIs(work(6, 6, task(0, 3, 1, 1, 0, 2), task(1, 4, 1, 1, 0, 0)), 7, 4, 1, 0, 0);
        planIs(work(6, 6, task(0, 3, 1, 1, 9, 2), task(1, 4, 1, 1, 0, 0)), 12, 9, 1, 0, 0);
        planIs(work(6, 6, task(0, 3, 1, 1, 0, 6), task(1, 4, 1, 1, 0, 0), task(2, 2, 1, 1, 5, 0)), 10, 7, 2, 0, 0, 5, 1);
        planIs(work(6, 6, task(0, 1, 0, 0, 0, 64), task(6, 20, 0, 0, 0, 0)), 21, 20, 1, NO, NO, NO, NO, NO, NO, NO, NO, NO, NO,
                0, 0);
        planIs(work(6, 6, task(0, 3, 1, 1, 0, 0), task(1, 4, 1, 1, 0, 1)), 7, 0, 0, 3, 1);
        planIs(work(6, 6, task(0, 3, 1, 1, 0, 0), task(1, 2, 1, 1, 0, 0), task(6, 4, 1, 1, 0, 3)), 7, 0, 0, 0, 1, NO, NO, NO, NO,
                NO, NO, NO, NO, 3, 2);
        Check.says("each behind those that must have ended ahead of it");
        planIs(work(6, 6, task(0, 1, 0, 0, 0, 2), task(1, 1, 0, 0, 0, 4), task(2, 1, 0, 0, 0, 8), task(3, 1, 0, 0, 0, 16),
                task(4, 1, 0, 0, 0, 32), task(5, 1, 0, 0, 0, 64), task(6, 1, 0, 0, 0, 0)), 7,
                6, 6, 5, 5, 4, 4, 3, 3, 2, 2, 1, 1, 0, 0);
    }

    private static void handsAndCranes() {
        Check.says("there are HANDS and CRANES enough for it beside those that have begun by the ORDER so far");
        planIs(work(2, 1, task(0, 3, 1, 0, 0, 0), task(1, 3, 1, 0, 0, 0)), 3, 0, 0, 0, 1);
        planIs(work(2, 1, task(0, 3, 1, 0, 0, 0), task(1, 3, 2, 0, 0, 0)), 6, 0, 0, 3, 1);
        planIs(work(1, 2, task(0, 3, 0, 1, 0, 0), task(1, 3, 0, 1, 0, 0)), 3, 0, 0, 0, 1);
        planIs(work(1, 2, task(0, 3, 0, 1, 0, 0), task(1, 3, 0, 2, 0, 0)), 6, 0, 0, 3, 1);
        planIs(work(1, 1, task(0, 3, 1, 0, 0, 0), task(1, 3, 0, 1, 0, 0)), 3, 0, 0, 0, 1);
        planIs(work(1, 1, task(0, 3, 0, 0, 0, 0), task(1, 3, 1, 1, 0, 0), task(2, 3, 0, 0, 0, 0)), 3, 0, 0, 0, 1, 0, 2);
        planIs(work(6, 1, task(0, 2, 2, 0, 0, 0), task(1, 2, 2, 0, 0, 0), task(2, 2, 2, 0, 0, 0), task(3, 2, 1, 0, 0, 0)), 4,
                0, 0, 0, 1, 0, 2, 2, 3);
        // All wait for all: 40 and seven times 20.
        int[][] tasks = new int[7][];
        for (int t = 0; t < 7; t++) {
            tasks[t] = task(t, 20, 6, 6, 40, 0);
        }
        planIs(work(6, 6, tasks), 180, 40, 0, 60, 1, 80, 2, 100, 3, 120, 4, 140, 5, 160, 6);
    }

    private static void furtherDays() {
        Check.says("on which, and on all its further days");
        // Between 0 .. 2 and 4 .. 6 two days are free.
        int[] early = task(0, 2, 1, 0, 0, 0);
        int[] late = task(1, 2, 1, 0, 4, 0);
        planIs(work(1, 1, early, late, task(2, 2, 1, 0, 0, 0)), 6, 0, 0, 4, 1, 2, 2);
        planIs(work(1, 1, early, late, task(2, 3, 1, 0, 0, 0)), 7, 0, 0, 5, 2, 2, 1);
        planIs(work(1, 1, early, task(1, 2, 1, 0, 4, 0), task(2, 3, 1, 0, 3, 2)), 9, 0, 0, 4, 1, 6, 2);
    }

    private static void orders() {
        Check.says("THE PLAN is that of the ORDER whose last day is least .. of several the first, as rows of numbers");
        planIs(work(6, 6, task(0, 1, 0, 0, 0, 0), task(1, 1, 0, 0, 0, 0), task(6, 1, 0, 0, 0, 0)), 1,
                0, 0, 0, 1, NO, NO, NO, NO, NO, NO, NO, NO, 0, 2);
        // The long one first: 5; else it begins on day 2.
        planIs(work(2, 1, task(0, 2, 1, 0, 0, 0), task(1, 2, 1, 0, 0, 0), task(2, 4, 1, 0, 0, 0)), 4, 0, 0, 2, 2, 0, 1);
        planIs(work(2, 1, task(0, 2, 2, 0, 1, 0), task(1, 1, 1, 0, 0, 0)), 3, 1, 0, 0, 1);
        planIs(work(1, 1, task(0, 1, 1, 0, 0, 0), task(1, 3, 1, 0, 0, 0), task(2, 5, 0, 0, 0, 2)), 8, 3, 1, 0, 0, 3, 2);
        planIs(work(1, 1, task(0, 3, 1, 0, 0, 0), task(1, 3, 1, 0, 0, 0)), 6, 0, 0, 3, 1);
    }

    private static void noPlan() {
        Check.says("None: a TASK needs more than there is");
        planIs(work(6, 6, task(0, 1, 6, 6, 0, 0)), 1, 0, 0);
        planIs(work(5, 6, task(0, 1, 6, 0, 0, 0)), NO, NO, NO);
        planIs(work(6, 5, task(0, 1, 0, 6, 0, 0)), NO, NO, NO);
        planIs(work(1, 1, task(0, 1, 1, 1, 0, 0), task(1, 1, 2, 0, 0, 0)), NO, NO, NO, NO, NO);
        planIs(work(1, 1, task(0, 1, 1, 1, 0, 0), task(6, 1, 0, 2, 0, 0)), NO, NO, NO);
        planIs(work(1, 1, task(0, 1, 1, 1, 0, 0), task(6, 0, 6, 6, 40, 127)), 1, 0, 0, NO, NO);
        Yard x = work(1, 1, task(0, 1, 1, 1, 0, 0));
        planIs(x, 1, 0, 0);
        change(x, task(3, 1, 2, 0, 0, 0));
        planIs(x, NO, NO, NO);
        change(x, task(3, 0, 2, 0, 0, 0));
        planIs(x, 1, 0, 0);
    }

    private static void planAnswers() {
        Check.says("THE PLAN: its last day (0 without TASKS); NO: none");
        Check.due("without TASKS", new Yard().plan(), 0);
        planIs(work(1, 1, task(0, 0, 6, 6, 40, 127)), 0, NO, NO);
        Check.says("0 days (0 none, .. 20)");
        planIs(work(1, 1, task(0, 20, 1, 1, 0, 0), task(1, 0, 1, 1, 0, 0)), 20, 0, 0, NO, NO);
    }

    private static void taskAnswers() {
        Check.says("The day on which a TASK begins (what = 0), which it is by the ORDER (1; from 0 on). BAD; "
                + "NO: it has no days; not worked out, or none");
        Yard x = work(1, 1, task(2, 1, 1, 1, 7, 0));
        int[][] bad = {{-1, 0}, {7, 0}, {0, -1}, {0, 2}, {Integer.MIN_VALUE, 0}, {Integer.MAX_VALUE, 0}, {0, Integer.MIN_VALUE}};
        for (int[] b : bad) {
            Check.due("not worked out: task(" + b[0] + ", " + b[1] + ")", x.task(b[0], b[1]), BAD);
        }
        Check.due("not worked out", x.task(2, 0), NO);
        Check.due("not worked out", x.task(2, 1), NO);
        Check.due("plan()", x.plan(), 8);
        for (int[] b : bad) {
            Check.due("task(" + b[0] + ", " + b[1] + ")", x.task(b[0], b[1]), BAD);
        }
        for (int t = 0; t < 7; t++) {
            Check.due("task(" + t + ", 0)", x.task(t, 0), t == 2 ? 7 : NO);
            Check.due("task(" + t + ", 1)", x.task(t, 1), t == 2 ? 0 : NO);
        }
        change(x, task(0, 1, 1, 1, 0, 0));
        Check.due("not worked out since", x.task(2, 0), NO);
        planIs(x, 8, 0, 0, NO, NO, 7, 1);
    }
}
