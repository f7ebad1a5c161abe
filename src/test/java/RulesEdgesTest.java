/** Parts 4 and 5 of the document, promises 22 to 25: each sentence that names a boundary case, with a test of its own. */
public final class RulesEdgesTest {
    private static final int BAD = -1, NO = -2, DOWN = -3;
    private static final long NONE = ShipYard.NONE, MOST = 1000000000000000000L;
    /** A thousand millions, and their square, the most that a number may be. */
    private static final String AHEAD = "let t = 500000000 * 2; let m = t * t; let u = 1 / 0;";

    public static void main(String[] args) {
        lowestTerms();
        sumsBeyond();
        productsBeyond();
        quotientsBeyond();
        undoneGoesOn();
        compared();
        blanks();
        words();
        numbers();
        signs();
        statements();
        points();
        conditions();
        sums();
        factors();
        wordsOfFactors();
        withBrackets();
        toldAtTheEnd();
        faultsOne();
        faultsTwo();
        faultsThree();
        faultsFour();
        counterNames();
        tooMany();
        tooDeep();
        notAbove();
        firstOfOneToken();
        firstFromTheLeft();
        keywords();
        orAndNot();
        choices();
        tables();
        tablesOnTheWay();
        series();
        greatestAndLeast();
        stepsOfEach();
        mostSteps();
        wordsOfTheSea();
        wordsOfTheModel();
        wordsOfTheWork();
        wholeNumbers();
        rulesAndLets();
        letAnswers();
        lettersOfAllKinds();
        Check.end();
    }

    // ---- what the tests use

    private static Yard text(String text) {
        Yard x = new Yard();
        Check.due("commit of '" + text + "'", Check.text(x, text), 1);
        return x;
    }

    /** What a sum comes to, behind the lets t, m and u. */
    private static void value(String sum, long above, long below) {
        Yard x = text(AHEAD + "let x = " + sum + ";");
        Check.due("above of '" + sum + "'", x.let(3, 0), above);
        Check.due("below of '" + sum + "'", x.let(3, 1), below);
    }

    private static void undone(String sum) {
        value(sum, NONE, NONE);
    }

    private static void verdict(String cond, int due) {
        Check.due("verdict of '" + cond + "'", text(AHEAD + "rule r = " + cond + ";").verdict(0), due);
    }

    private static void steps(String cond, int due) {
        Check.due("steps of '" + cond + "'", text("let u = 1 / 0; rule r = " + cond + ";").steps(0), due);
    }

    private static void right(String text) {
        RulesTest.fault(0, 0, text);
    }

    private static void wrong(int kind, int at, String text) {
        RulesTest.fault(kind, at, text);
    }

    private static String times(int n, String text) {
        return text.repeat(n);
    }

    // ---- part 4

    private static void lowestTerms() {
        Check.says("NUMBERS of rules are fractions, in lowest terms, below them above 0");
        value("6 / 4", 3, 2);
        value("6 / -4", -3, 2);
        value("-6 / 4", -3, 2);
        value("-6 / -4", 3, 2);
        value("4 / 2", 2, 1);
        value("0 / 7", 0, 1);
        value("0 / -7", 0, 1);
        value("-0", 0, 1);
        value("1 / 2 - 1 / 2", 0, 1);
        value("m / t", 1000000000, 1);
        value("t / m", 1, 1000000000);
        value("-m / (m - 1)", -MOST, MOST - 1);
        value("1 / 3 + 1 / 6", 1, 2);
        value("2 / 3 * (3 / 2)", 1, 1);
    }

    private static void sumsBeyond() {
        Check.says("x + y of a / b, c / d: a d, c b, their sum, b d; less likewise");
        Check.says("If one of these whole numbers is beyond 10^18 in size, the result is UNDONE");
        value("m - 1 + 1", MOST, 1);
        value("m + 0", MOST, 1);
        undone("m + 1");
        value("-m", -MOST, 1);
        value("1 - m - 1", -MOST, 1);
        undone("-m - 1");
        undone("0 - m - 1");
        // a d
        value("m / 2 + 0 / 2", MOST / 2, 1);
        undone("m + 1 / 2 - 1 / 2");
        undone("m - 1 / 2");
        undone("-m + 1 / 2");
        value("m / 2 - 1 / 2", MOST - 1, 2);
        undone("m / 2 + 1 - 1 / 2");
        // c b
        undone("1 / 2 + m");
        undone("1 / 2 - m");
        undone("1 / 2 - (m / 2 + 1)");
        value("1 / 2 - m / 2", 1 - MOST, 2);
        // the sum
        undone("m / 2 + 1 / 2");
        undone("-1 / 2 - m / 2");
        undone("m / 2 + (m / 2 + 1)");
        // both products
        undone("m / 3 + m / 7");
        undone("m / 3 - m / 7");
        value("m / 2 + m / 2", MOST, 1);
        // b d
        value("1 / t + 1 / t", 1, 500000000);
        undone("1 / t + 1 / (t + 1)");
        undone("1 / t - 1 / (t + 1)");
        value("1 / t - 1 / t", 0, 1);
        undone("1 / m + 1 / 2");
        value("0 + 1 / m", 1, MOST);
    }

    private static void productsBeyond() {
        Check.says("times: a c, b d");
        value("t * t", MOST, 1);
        undone("t * (t + 1)");
        value("-t * t", -MOST, 1);
        undone("-t * (t + 1)");
        undone("m / 3 * (3 / 7)");
        value("m * 1", MOST, 1);
        value("m * 0", 0, 1);
        value("1 / t * (1 / t)", 1, MOST);
        undone("1 / t * (1 / (t + 1))");
        undone("0 / t + 1 / m * (1 / 2)");
        value("-1 / t * (1 / t)", -1, MOST);
        value("999999999 * 999999999", 999999998000000001L, 1);
    }

    private static void quotientsBeyond() {
        Check.says("by: none by 0; a d, b c");
        undone("1 / 0");
        undone("0 / 0");
        undone("1 / (1 - 1)");
        undone("m / 0");
        value("0 / 1", 0, 1);
        value("m / m", 1, 1);
        value("m / -m", -1, 1);
        undone("m / (1 / 2)");
        value("m / 2 / (1 / 2)", MOST, 1);
        undone("1 / 2 / m");
        value("1 / t / t", 1, MOST);
        undone("1 / t / (t + 1)");
        undone("(m / 2 + 1) / (1 / 2)");
    }

    private static void undoneGoesOn() {
        Check.says("the result is UNDONE, as is that of anything UNDONE");
        String[] sums = {"u + 1", "1 + u", "u - u", "1 - u", "u * 0", "0 * u", "u / 1", "0 / u", "-u", "(u)", "u / u"};
        for (String sum : sums) {
            undone(sum);
        }
        undone("sum(k, 1, 2, u)");
        undone("if(1 = 1, u, 1)");
        value("if(1 = 2, u, 1)", 1, 1);
    }

    private static void compared() {
        Check.says("Compared are a d with c b (beyond: OPEN; OPEN with something UNDONE)");
        verdict("m = m", 1);
        verdict("m > 1 - m", 1);
        verdict("m / 2 > 1 / 2", 1);
        verdict("1 / 2 < m / 2", 1);
        verdict("m > 1 / 2", 2);
        verdict("1 / 2 < m", 2);
        verdict("-m < 1 / 2", 2);
        verdict("1 / 2 # -m", 2);
        verdict("m / 2 + 1 > 1 / 2", 2);
        verdict("m / 3 > m / 7", 2);
        verdict("m / 3 = m / 7", 2);
        verdict("1 / t = 1 / t", 1);
        verdict("1 / m < 1", 1);
        verdict("1 / m < 2", 2);
        verdict("1 / m < 1 / m", 0);
        verdict("0 < 1 / m", 1);
        String[] hows = {"=", "#", "<", ">", "<=", ">="};
        for (String how : hows) {
            verdict("u " + how + " 1", 2);
            verdict("1 " + how + " u", 2);
            verdict("u " + how + " u", 2);
        }
        int[][] due = {{0, 1, 0}, {1, 0, 1}, {1, 0, 0}, {0, 0, 1}, {1, 1, 0}, {0, 1, 1}};
        for (int i = 0; i < 6; i++) {
            verdict("1 / 3 " + hows[i] + " 1 / 2", due[i][0]);
            verdict("2 / 4 " + hows[i] + " 1 / 2", due[i][1]);
            verdict("2 / 3 " + hows[i] + " 1 / 2", due[i][2]);
            verdict("-1 / 2 " + hows[i] + " -1 / 3", due[i][0]);
        }
    }

    // ---- part 5: tokens

    private static void blanks() {
        Check.says("Blanks (32, 10) stand anywhere between TOKENS");
        right(" \n let \n a\n=\n1 ; \n");
        right("let a=1;let b=a+1;rule r=a<=b;table t=1:1,2:2;");
        right("let a = ( ( 1 ) ) * - - 2 ; rule r = [ 1 < 2 ] ;");
        right("table t = - 1 : - 1 , 2 : 2 ;");
        right(times(1200, " "));
        right(times(1200, "\n"));
        wrong(2, 0, "le t a = 1;");
        wrong(2, 10, "let a = 1 2;");
        wrong(2, 13, "rule r = 1 < = 2;");
        wrong(2, 13, "rule r = 1 <=");
        wrong(2, 13, "rule r = 1 >=");
        wrong(2, 12, "rule r = 1 <");
        wrong(2, 13, "rule r = 1 > = 2;");
        for (int b : new int[] {0, 1, 9, 11, 13, 31, 127, 128, 160, 255}) {
            wrong(1, 3, "let" + (char) b + "a = 1;");
        }
    }

    private static void words() {
        Check.says("a WORD (a .. z, 1 to 8, as long as may be)");
        right("let a = 1; let z = a;");
        right("let abcdefgh = 1; let zzzzzzzz = abcdefgh;");
        wrong(1, 4, "let abcdefghi = 1;");
        wrong(1, 19, "let abcdefgh = 1 + abcdefghabcdefgh;");
        wrong(2, 0, "leta = 1;");
        wrong(2, 0, "lets a = 1;");
        wrong(3, 8, "let a = levels;");
        right("let leta = 1; let lets = leta; let ruler = 2; let iff = 3;");
        wrong(2, 5, "let a1 = 1;");
    }

    private static void numbers() {
        Check.says("a NUMBER (0 .. 9, 1 to 9, likewise)");
        value("0", 0, 1);
        value("9", 9, 1);
        value("999999999", 999999999, 1);
        value("000000000", 0, 1);
        value("000000012", 12, 1);
        wrong(1, 8, "let a = 1000000000;");
        wrong(1, 8, "let a = 0000000000;");
        wrong(1, 8, "let a = 12345678901234567890;");
        wrong(2, 9, "let a = 1a;");
        right("table t = 999999999:999999999;");
        wrong(1, 10, "table t = 0999999999:1;");
        wrong(1, 12, "table t = 1:1234567890;");
    }

    private static void signs() {
        Check.says("<= >= and one of + - * / ( ) [ ] , ; : = # < >");
        right("rule r = [1 + 2 - 3 * 4 / (5) <= 6] and [1 >= 2 or 1 = 2] and 1 # 2 and 1 < 2 and 1 > 2; table t = 1:2, 3:4;");
        for (char c = 32; c < 256; c++) {
            boolean isToken = c == ' ' || c >= 'a' && c <= 'z' || c >= '0' && c <= '9' || "+-*/()[],;:=#<>".indexOf(c) >= 0;
            if (!isToken) {
                wrong(1, 9, "let a = 1" + c + ";");
            }
        }
        wrong(1, 9, "rule r = !1 = 2;");
    }

    // ---- part 5: the grammar

    private static void statements() {
        Check.says("TEXT: STATEMENTS. STATEMENT: let WORD = SUM ; or table WORD = POINT , POINT .. ; or rule WORD = COND ;");
        right("");
        right("let a = 1;");
        right("table a = 1:1;");
        right("rule a = 1 = 1;");
        wrong(2, 0, ";");
        wrong(2, 10, "let a = 1;;");
        wrong(2, 0, "a = 1;");
        wrong(2, 0, "1");
        wrong(2, 3, "let");
        wrong(2, 4, "let = 1;");
        wrong(2, 5, "let a");
        wrong(2, 6, "let a 1;");
        wrong(2, 6, "let a : 1;");
        wrong(2, 8, "let a = ;");
        wrong(2, 9, "let a = 1");
        wrong(2, 10, "let a = 1 let b = 2;");
        wrong(2, 10, "let a = 1 , 2;");
        wrong(2, 10, "let a = 1 < 2;");
        wrong(2, 10, "rule a = 1;");
        wrong(2, 9, "rule a = ;");
        wrong(2, 14, "rule a = 1 = 1");
        wrong(2, 0, "if (1 = 1, 2, 3);");
        wrong(2, 0, "and");
    }

    private static void points() {
        Check.says("POINT: x : y, each a NUMBER, or - and one");
        right("table a = 0:0;");
        right("table a = -0:-0, 1:1;");
        right("table a = -999999999:-999999999, 999999999:999999999;");
        wrong(2, 10, "table a = ;");
        wrong(2, 10, "table a = , 1:1;");
        wrong(2, 11, "table a = 1;");
        wrong(2, 12, "table a = 1:;");
        wrong(2, 11, "table a = --1:1;");
        wrong(2, 13, "table a = 1:--1;");
        wrong(2, 10, "table a = +1:1;");
        wrong(2, 10, "table a = (1):1;");
        wrong(2, 12, "table a = 1:b;");
        wrong(2, 10, "table a = b:1;");
        wrong(2, 14, "table a = 1:1 2:2;");
        wrong(2, 14, "table a = 1:1,;");
        wrong(2, 13, "table a = 1:1:1;");
        wrong(2, 13, "table a = 1:1+1;");
        wrong(2, 13, "table a = 1:1");
        wrong(2, 10, "table a = ");
    }

    private static void conditions() {
        Check.says("COND: AND or AND .. AND: NOT and NOT .. NOT: not NOT or [ COND ] or SUM, one of = # < > <= >= , SUM");
        right("rule r = 1 = 1 or 1 = 1 or 1 = 1 and 1 = 1 and 1 = 1;");
        right("rule r = not 1 = 1 or not not 1 = 1 and not [1 = 1 or 1 = 1];");
        right("rule r = [[1 = 1]];");
        wrong(2, 12, "rule r = not;");
        wrong(2, 13, "rule r = not ;");
        wrong(2, 14, "rule r = not 1;");
        wrong(2, 10, "rule r = [];");
        wrong(2, 11, "rule r = [1];");
        wrong(2, 15, "rule r = [1 = 1;");
        wrong(2, 14, "rule r = 1 = 1];");
        wrong(2, 15, "rule r = 1 = 1 = 1;");
        wrong(2, 13, "rule r = 1 = = 1;");
        wrong(2, 9, "rule r = = 1;");
        wrong(2, 13, "rule r = 1 = ;");
        wrong(2, 15, "rule r = 1 = 1 not 1 = 1;");
        wrong(2, 9, "rule r = or 1 = 1;");
        wrong(2, 18, "rule r = 1 = 1 or or 1 = 1;");
        wrong(2, 19, "rule r = 1 = 1 and and 1 = 1;");
        wrong(2, 18, "rule r = 1 = 1 or ;");
        wrong(2, 9, "rule r = and 1 = 1;");
        wrong(2, 12, "rule r = (1 = 1);");
        wrong(2, 11, "rule r = 1 : 1;");
        wrong(2, 17, "rule r = [1 = 1] = 1;");
        wrong(2, 13, "rule r = 1 = [1 = 1];");
        wrong(2, 13, "rule r = 1 + [1];");
    }

    private static void sums() {
        Check.says("SUM: PRODUCT, + or - , PRODUCT .. PRODUCT: FACTOR, * or / , FACTOR .. (from the left)");
        value("10 - 4 - 3", 3, 1);
        value("10 - 4 + 3", 9, 1);
        value("48 / 4 / 3", 4, 1);
        value("48 / 4 * 3", 36, 1);
        value("1 + 2 * 3 - 4 / 2", 5, 1);
        value("2 * 3 + 4 * 5", 26, 1);
        value("-2 * -3", 6, 1);
        value("1 - -1", 2, 1);
        value("1 - - - 1", 0, 1);
        value("-(1 + 2) * 3", -9, 1);
        wrong(2, 12, "let a = 1 + ;");
        wrong(2, 12, "let a = 1 * ;");
        wrong(2, 12, "let a = 1 + + 1;");
        wrong(2, 12, "let a = 1 * * 1;");
        wrong(2, 12, "let a = 1 - * 1;");
        wrong(2, 8, "let a = + 1;");
        wrong(2, 8, "let a = * 1;");
        wrong(2, 8, "let a = / 1;");
        right("let a = 1 * - 1;");
    }

    private static void factors() {
        Check.says("FACTOR: - FACTOR or NUMBER or ( SUM ) or WORD or WORD ( SUM ) or if ( COND , SUM , SUM ) "
                + "or sum, max or min ( WORD , SUM , SUM , SUM )");
        right("let a = -1; let b = (a); let c = -(-a); let d = room(a) + level + if(1 = 1, 1, 1) + sum(k, 1, 1, 1);");
        wrong(2, 9, "let a = ();");
        wrong(2, 9, "let a = -;");
        wrong(2, 10, "let a = (1;");
        wrong(2, 10, "let a = (1, 2);");
        wrong(2, 9, "let a = 1);");
        wrong(2, 11, "let a = if 1 = 1, 1, 1;");
        wrong(2, 11, "let a = if(, 1, 1);");
        wrong(2, 12, "let a = if(1, 1, 1);");
        wrong(2, 16, "let a = if(1 = 1);");
        wrong(2, 19, "let a = if(1 = 1, 1);");
        wrong(2, 22, "let a = if(1 = 1, 1, 1;");
        wrong(2, 22, "let a = if(1 = 1, 1, 1, 1);");
        wrong(2, 18, "let a = if(1 = 1, , 1);");
        for (String how : new String[] {"sum", "max", "min"}) {
            right("let a = " + how + "(k, 1, 2, k);");
            wrong(2, 12, "let a = " + how + " k, 1, 2, k;");
            wrong(2, 12, "let a = " + how + "(1, 2, 3, 4);");
            wrong(2, 12, "let a = " + how + "();");
            wrong(2, 13, "let a = " + how + "(k);");
            wrong(2, 16, "let a = " + how + "(k, 1);");
            wrong(2, 19, "let a = " + how + "(k, 1, 2);");
            wrong(2, 22, "let a = " + how + "(k, 1, 2, 3, 4);");
            wrong(2, 22, "let a = " + how + "(k, 1, 2, 3;");
        }
    }

    private static void wordsOfFactors() {
        Check.says("A WORD of a FACTOR is, by the first of these: a COUNTER (the first WORD of a sum, max, min, in its last SUM); "
                + "one that a let told above; a table told above, with ( ); one of the yard's");
        right("let a = 1; table b = 1:1; let c = a + b(a) + sum(k, 1, 2, k + a + b(k)) + level + room(1);");
        wrong(3, 15, "let a = sum(k, k, 2, 1);");
        wrong(3, 18, "let a = sum(k, 1, k, 1);");
        wrong(3, 27, "let a = sum(k, 1, 2, 1) + (k);");
        wrong(3, 38, "let a = sum(k, 1, 2, k); rule r = 1 = k;");
        right("let a = sum(k, 1, 2, if(k = 1, -k, (k)) + sum(j, k, k, j * k));");
        wrong(3, 8, "let a = b; let b = 1;");
        wrong(3, 8, "let a = b(1); table b = 1:1;");
        wrong(3, 24, "rule a = 1 = 1; let b = a;");
        Yard x = text("let a = sum(a, 1, 3, a); let b = a; let c = sum(d, 1, 2, a + d); let d = 5;");
        Check.due("a COUNTER of the let's own name", x.let(0, 0), 6);
        Check.due("the let behind its STATEMENT", x.let(1, 0), 6);
        Check.due("both", x.let(2, 0), 15);
        Check.due("a let told behind a COUNTER of its name", x.let(3, 0), 5);
    }

    private static void withBrackets() {
        Check.says("(Tables, and the yard's with ( ), want it; others can't have it: 2, at the TOKEN in the stead of a (, at that (.");
        wrong(2, 24, "table t = 1:1; let b = t;");
        wrong(2, 25, "table t = 1:1; let b = t + 1;");
        wrong(2, 24, "table t = 1:1; let b = t");
        wrong(2, 24, "table t = 1:1; let b = t[1];");
        String[] of = {"draught", "force", "bend", "lever", "area", "axis", "second", "room", "fill", "price", "start"};
        for (String word : of) {
            right("let a = " + word + "(1);");
            wrong(2, 8 + word.length(), "let a = " + word + ";");
            wrong(2, 9 + word.length(), "let a = " + word + " 1;");
            wrong(2, 9 + word.length(), "let a = " + word + "();");
            wrong(2, 10 + word.length(), "let a = " + word + "(1, 2);");
        }
        String[] plain = {"level", "trim", "heel", "water", "weight", "rounds", "length", "breadth", "placed", "left", "bars",
            "led", "end"};
        for (String word : plain) {
            right("let a = " + word + ";");
            wrong(2, 8 + word.length(), "let a = " + word + "(1);");
        }
        wrong(2, 20, "let a = 1; let b = a(1);");
        wrong(2, 22, "let a = sum(k, 1, 2, k(1));");
        wrong(3, 8, "let a = x(1);");
        wrong(2, 9, "let a = 1(1);");
    }

    private static void toldAtTheEnd() {
        Check.says("What let, table, rule tell is told at the end of their STATEMENT");
        wrong(3, 8, "let a = a;");
        wrong(3, 13, "rule a = 1 = a;");
        wrong(3, 19, "let a = 1; let b = b + a;");
        right("let a = sum(a, 1, 2, a);");
        right("rule a = sum(a, 1, 2, a) = 3;");
        wrong(4, 28, "rule a = 1 = 1; let b = sum(a, 1, 2, a);");
    }

    // ---- part 5: faults

    private static void faultsOne() {
        Check.says("1 ahead of all: the first byte with which no TOKEN begins, the first byte of a WORD of more than 8, "
                + "a NUMBER of more than 9 digits");
        wrong(1, 0, "?");
        wrong(1, 15, "let let let = 1?");
        wrong(1, 4, "a b ?c");
        wrong(1, 2, "; abcdefghi ?");
        wrong(1, 2, "; 1234567890 abcdefghi");
        wrong(1, 1, "1abcdefghi");
        wrong(1, 1, "a1234567890");
        wrong(1, 8, "abcdefgh?");
        wrong(1, 1199, times(1199, " ") + "?");
        wrong(1, 1191, times(1191, " ") + "abcdefghi");
        right("let a = 1;" + times(1190, " "));
        wrong(1, 1190, "let a = 1;" + times(1180, " ") + "1234567890");
    }

    private static void faultsTwo() {
        Check.says("2 a TOKEN that can't stand there (the end: how many bytes there are)");
        wrong(2, 3, "let");
        wrong(2, 6, "let   ");
        wrong(2, 9, "let a =  ");
        wrong(2, 10, "let a = 1\n");
        wrong(2, 1200, "let a = 1" + times(1191, " "));
        wrong(2, 1200, "let a = 1" + times(1191, "\n"));
        wrong(2, 1199, "let a = 1;" + times(1189, " ") + ";");
    }

    private static void faultsThree() {
        Check.says("3 a WORD that means none of these");
        wrong(3, 8, "let a = b;");
        wrong(3, 8, "let a = leve;");
        wrong(3, 8, "let a = levell;");
        wrong(3, 12, "let a = 1 + b + 1;");
        wrong(3, 13, "rule r = 1 = zzzzzzzz;");
        wrong(3, 13, "let a = room(q);");
        wrong(3, 9, "let a = -b;");
        wrong(3, 18, "let a = if(1 = 1, b, c);");
    }

    private static void faultsFour() {
        Check.says("4 a WORD told by let, table, rule or as a COUNTER that one of these told already");
        String[] first = {"let a = 1;", "table a = 1:1;", "rule a = 1 = 1;"};
        for (String told : first) {
            int n = told.length();
            wrong(4, n + 4, told + "let a = 1;");
            wrong(4, n + 6, told + "table a = 1:1;");
            wrong(4, n + 5, told + "rule a = 1 = 1;");
            wrong(4, n + 12, told + "let b = sum(a, 1, 2, 3);");
            right(told + "let b = 1; rule c = 1 = 1; table d = 1:1;");
        }
        Check.says("4 .. the yard's words, or one of let, table, rule, if, sum, max, min, and, or, not");
        String[] yards = {"level", "trim", "heel", "water", "weight", "rounds", "length", "breadth", "placed", "left", "bars",
            "led", "end", "draught", "force", "bend", "lever", "area", "axis", "second", "room", "fill", "price", "start",
            "let", "table", "rule", "if", "sum", "max", "min", "and", "or", "not"};
        for (String word : yards) {
            wrong(4, 4, "let " + word + " = 1;");
            wrong(4, 6, "table " + word + " = 1:1;");
            wrong(4, 5, "rule " + word + " = 1 = 1;");
            wrong(4, 12, "let a = max(" + word + ", 1, 2, 3);");
        }
    }

    private static void counterNames() {
        Check.says("(a COUNTER where it does not reach: not)");
        wrong(4, 25, "let a = sum(k, 1, 2, sum(k, 1, 2, 3));");
        wrong(4, 27, "let a = sum(k, 1, 2, -(max(k, 1, 2, 3)));");
        right("let a = sum(k, sum(k, 1, 2, k), sum(k, 1, 2, k), k);");
        right("let a = sum(k, 1, 2, k) + sum(k, 1, 2, k);");
        right("let a = sum(k, 1, 2, k); let b = sum(k, 1, 2, k);");
        right("let a = sum(k, 1, 2, k); let k = 1;");
        right("let a = sum(k, 1, 2, k); rule k = 1 = 1;");
        right("let a = sum(k, 1, 2, k); table k = 1:1;");
        right("let a = sum(k, 1, 2, sum(j, 1, 2, j) + sum(j, 1, 2, j));");
        wrong(4, 38, "let a = sum(k, 1, 2, sum(j, 1, 2, sum(j, 1, 2, 3)));");
        wrong(4, 38, "let a = sum(k, 1, 2, sum(j, 1, 2, sum(k, 1, 2, 3)));");
        wrong(4, 32, "let a = sum(k, 1, 2, sum(j, max(k, 1, 2, 3), 2, 3));");
        right("let a = sum(k, 1, 2, sum(j, max(j, 1, 2, 3), 2, 3));");
    }

    private static String lets(int n) {
        StringBuilder s = new StringBuilder();
        for (int i = 0; i < n; i++) {
            s.append("let ").append(RulesTest.name(i)).append("=1;");
        }
        return s.toString();
    }

    private static String someTables(int n) {
        StringBuilder s = new StringBuilder();
        for (int i = 0; i < n; i++) {
            s.append("table q").append((char) ('a' + i)).append("=1:1;");
        }
        return s.toString();
    }

    private static String someRules(int n) {
        StringBuilder s = new StringBuilder();
        for (int i = 0; i < n; i++) {
            s.append("rule p").append((char) ('a' + i)).append("=1=1;");
        }
        return s.toString();
    }

    private static String manyPoints(int n) {
        StringBuilder s = new StringBuilder("table t=");
        for (int i = 0; i < n; i++) {
            s.append(i == 0 ? "" : ",").append(i).append(":1");
        }
        return s.toString();
    }

    private static void tooMany() {
        Check.says("5 the 41st let, 9th table, 25th rule (at let, table, rule)");
        right(lets(40));
        wrong(5, lets(40).length(), lets(41));
        wrong(5, lets(40).length(), lets(40) + "let 1");
        wrong(5, lets(40).length() + 9, lets(40) + "         let nq = 1;");
        right(someTables(8));
        wrong(5, someTables(8).length(), someTables(9));
        right(someRules(24));
        wrong(5, someRules(24).length(), someRules(25));
        right(lets(40) + someTables(8) + someRules(24));
        wrong(5, lets(40).length() + someRules(24).length(), lets(40) + someRules(24) + "let x = 1;");
        Yard x = text(lets(40) + someRules(24));
        Check.due("rules", x.rules(0), 24);
        Check.due("lets", x.rules(1), 40);
        Check.due("the last rule", x.verdict(23), 1);
        Check.due("none such", x.verdict(24), BAD);
        Check.due("the last let", x.let(39, 0), 1);
        Check.due("none such", x.let(40, 0), NONE);
        Check.due("the same TEXT again", Check.text(x, lets(40) + someTables(8) + someRules(24)), 2);
        Check.due("the same TEXT again", Check.text(x, lets(40) + someTables(8) + someRules(24)), 3);
        Check.due("a FAULT", Check.text(x, lets(40) + someTables(8) + someRules(24) + "?"), -447);
        Check.due("the same TEXT again", Check.text(x, lets(40) + someTables(8) + someRules(24)), 4);
        String all = lets(39) + someTables(8) + someRules(24);
        x = text(all + "let z=nbm+qh(1);");
        Check.due("the last one of each", x.let(39, 0), 2);
        wrong(4, all.length() + 4, all + "let px=1;");
        wrong(4, all.length() + 4, all + "let qh=1;");
        wrong(4, all.length() + 4, all + "let nbm=1;");
        wrong(3, all.length() + 6, all + "let z=px;");
        Check.says("5 .. the 13th POINT of a table (at its first TOKEN)");
        right(manyPoints(12) + ";");
        wrong(5, manyPoints(12).length() + 1, manyPoints(13) + ";");
        wrong(5, manyPoints(12).length() + 1, manyPoints(12) + ",-1:1;");
        wrong(5, manyPoints(12).length() + 3, manyPoints(12) + ",  13:1;");
        wrong(5, manyPoints(12).length() + 1, manyPoints(12) + ",13");
        right(manyPoints(12) + ";" + manyPoints(12).replace("table t", "table u") + ";");
        x = text(manyPoints(12).replace("11:1", "11:7") + "; let a = t(11); let b = t(10); let c = t(12);");
        Check.due("the 12th POINT", x.let(0, 0), 7);
        Check.due("the 11th POINT", x.let(1, 0), 1);
        Check.due("behind the 12th POINT", x.let(2, 0), 7);
        for (int i = 2; i <= 5; i++) {
            Check.due("twelve POINTS again", Check.text(x, manyPoints(12) + "; let a = t(11);"), i);
            Check.due("the 12th POINT", x.let(0, 0), 1);
        }
        for (int i = 6; i <= 8; i++) {
            Check.due("two POINTS", Check.text(x, "table t = 3:4, 5:8; let a = t(9); let b = t(4);"), i);
            Check.due("behind the second POINT", x.let(0, 0), 8);
            Check.due("between both", x.let(1, 0), 6);
        }
    }

    private static void tooDeep() {
        Check.says("5 .. the 25th of FACTORS and NOTS within one another (at its first TOKEN; each - FACTOR and not NOT is one more)");
        right("let a = " + times(23, "(") + "1" + times(23, ")") + ";");
        wrong(5, 8 + 24, "let a = " + times(24, "(") + "1" + times(24, ")") + ";");
        right("let a = " + times(23, "-") + "1;");
        wrong(5, 8 + 24, "let a = " + times(24, "-") + "1;");
        right("let a = " + times(12, "-") + times(11, "(") + "1" + times(11, ")") + ";");
        wrong(5, 8 + 24, "let a = " + times(12, "-") + times(12, "(") + "1" + times(12, ")") + ";");
        right("rule a = " + times(22, "not ") + "1 = 1;");
        wrong(5, 9 + 4 * 23, "rule a = " + times(23, "not ") + "1 = 1;");
        wrong(5, 9 + 4 * 24, "rule a = " + times(24, "not ") + "1 = 1;");
        right("rule a = " + times(22, "[") + "1 = 1" + times(22, "]") + ";");
        wrong(5, 9 + 23, "rule a = " + times(23, "[") + "1 = 1" + times(23, "]") + ";");
        wrong(5, 9 + 24, "rule a = " + times(24, "[") + "1 = 1" + times(24, "]") + ";");
        right("rule a = " + times(22, "(") + "1" + times(22, ")") + " = 1;");
        wrong(5, 9 + 23, "rule a = " + times(23, "(") + "1" + times(23, ")") + " = 1;");
        right("rule a = 1 = " + times(22, "-") + "1;");
        wrong(5, 13 + 23, "rule a = 1 = " + times(23, "-") + "1;");
        right("rule a = " + times(22, "not ") + "1 + 1 * 1 = 1 or " + times(22, "not ") + "1 = 1;");
        right("let a = " + times(23, "room(") + "1" + times(23, ")") + ";");
        wrong(5, 8 + 5 * 24, "let a = " + times(24, "room(") + "1" + times(24, ")") + ";");
        right("table t = 1:1; let a = " + times(23, "t(") + "1" + times(23, ")") + ";");
        wrong(5, 23 + 2 * 24, "table t = 1:1; let a = " + times(24, "t(") + "1" + times(24, ")") + ";");
        right("let a = " + times(11, "if(") + "1" + times(11, "=1,1,1)") + ";");
        wrong(5, 8 + 3 * 12, "let a = " + times(12, "if(") + "1" + times(12, "=1,1,1)") + ";");
        // Each part of a FACTOR or NOT counts, wherever it stands.
        String[] ahead = {"if(1=1,", "if(1=1,1,", "min(k,1,", "1+(1-", "2*(", "t("};
        String[] behind = {",1)", ")", ",1)", ")", ")", ")"};
        int[] last = {3, 3, 6, 3, 3, 2};
        for (int i = 0; i < ahead.length; i++) {
            int most = i < 2 ? 22 : 23;
            String text = "table t = 1:1; let a = ";
            right(text + times(most, ahead[i]) + "1" + times(most, behind[i]) + ";");
            wrong(5, text.length() + most * ahead[i].length() + last[i],
                    text + times(most + 1, ahead[i]) + "1" + times(most + 1, behind[i]) + ";");
        }
        String counters = "1";
        for (int i = 0; i < 23; i++) {
            counters = "sum(" + RulesTest.name(i) + ",1,1," + counters + ")";
        }
        right("let a = " + counters + ";");
        wrong(5, 8 + 23 * 12 + 1, "let a = " + counters.replace("1,1,1)", "1,1,-1)") + ";");
        right("let a = " + times(23, "sum(k,") + "1" + times(23, ",1,1)") + ";");
        wrong(5, 8 + 6 * 24, "let a = " + times(24, "sum(k,") + "1" + times(24, ",1,1)") + ";");
        right("let a = " + times(23, "(") + "1+1*1-1" + times(23, ")") + "+" + times(23, "(") + "1" + times(23, ")") + ";");
        wrong(5, 8 + 23 + 2 + 1, "let a = " + times(23, "(") + "1+" + times(23, "(") + "1");
        for (int more = 25; more <= 30; more += 5) {
            wrong(5, 9 + 4 * 24, "rule a = " + times(more, "not ") + "1 = 1;");
            wrong(5, 9 + 24, "rule a = " + times(more, "[") + "1 = 1" + times(more, "]") + ";");
            wrong(5, 9 + 4 * 20 + 4, "rule a = " + times(20, "not ") + times(more, "[") + "1 = 1" + times(more, "]") + ";");
            wrong(5, 8 + 24, "let a = " + times(more, "-") + "1;");
            wrong(5, 8 + 24, "let a = " + times(more, "(") + "1" + times(more, ")") + ";");
            wrong(5, 8 + 24 * 5, "let a = " + times(more, "room(") + "1" + times(more, ")") + ";");
            wrong(5, 8 + 24 * 6, "let a = " + times(more, "max(k,") + "1" + times(more, ",1,1)") + ";");
            wrong(5, 8 + 12 * 3, "let a = " + times(more, "if(") + "1" + times(more, "=1,1,1)") + ";");
        }
        Yard x = text("let a = " + times(23, "-") + "7; rule r = " + times(21, "not ") + "1 = 2;");
        Check.due("23 times less", x.let(0, 0), -7);
        Check.due("21 times not", x.verdict(0), 1);
    }

    private static void notAbove() {
        Check.says("6 an x not above the one before it (at its first TOKEN)");
        right("table t = 1:1, 2:1;");
        wrong(6, 15, "table t = 1:1, 1:1;");
        wrong(6, 15, "table t = 1:1, 0:1;");
        wrong(6, 15, "table t = 1:1, -5:1;");
        wrong(6, 15, "table t = 1:1, - 5:1;");
        wrong(6, 15, "table t = 1:1, 1");
        wrong(2, 16, "table t = 1:1, -;");
        right("table t = -2:1, -1:1, 0:1, 1:1;");
        wrong(6, 16, "table t = -1:1, -1:1;");
        wrong(6, 16, "table t = -1:1, -2:1;");
        wrong(6, 15, "table t = 0:1, -0:1;");
        wrong(6, 20, "table t = 1:1, 3:1, 2:1;");
        right("table t = -999999999:1, 999999999:1;");
        wrong(6, 23, "table t = 999999999:1, 999999998:1;");
    }

    private static void firstOfOneToken() {
        Check.says("(Of one TOKEN, the end of the TEXT being one, too, 5 is first, then 4, 2, 3, 6.");
        wrong(5, 8 + 24, "let a = " + times(24, "(") + ")");
        wrong(5, 8 + 24, "let a = " + times(24, "("));
        wrong(5, 8 + 24, "let a = " + times(24, "(") + "x");
        wrong(5, 8 + 24, "let a = " + times(24, "(") + "let");
        wrong(2, 8 + 23, "let a = " + times(23, "(") + ")");
        wrong(2, 8 + 23, "let a = " + times(23, "("));
        wrong(3, 8 + 23, "let a = " + times(23, "(") + "x");
        wrong(5, manyPoints(12).length() + 1, manyPoints(12) + ",0:1;");
        wrong(5, manyPoints(12).length() + 1, manyPoints(12) + ",;");
        wrong(5, manyPoints(12).length() + 1, manyPoints(12) + ",");
        wrong(5, 9 + 4 * 24, "rule a = " + times(24, "not ") + ";");
        wrong(5, 9 + 4 * 24 - 1, "rule a = " + times(24, "not ").trim());
        wrong(5, lets(40).length(), lets(40) + "let");
        wrong(4, 4, "let if");
        wrong(2, 8, "let a = or");
    }

    private static void firstFromTheLeft() {
        Check.says("Then the first one from the left");
        wrong(3, 8, "let a = b + c + ;");
        wrong(2, 10, "let a = 1 b;");
        wrong(2, 10, "let a = 1 level;");
        wrong(2, 10, "let a = 1 1 + b;");
        wrong(4, 4, "let level = b;");
        wrong(6, 15, "table t = 1:1, 1;");
        wrong(3, 8, "let a = b; let a = 1; ;");
        wrong(4, 15, "let a = 1; let a = b; ;");
        wrong(2, 11, "let a = 1; ; let a = b;");
        wrong(3, 8, "let a = b " + times(30, "("));
        wrong(5, 8 + 24, "let a = " + times(30, "(") + "b");
    }

    private static void keywords() {
        Check.says("let, table, rule, if, sum, max, min, and, or, not stand for themselves alone: they are 2 where a WORD is meant, "
                + "4 where one is told");
        for (String key : new String[] {"let", "table", "rule", "and", "or", "not"}) {
            wrong(2, 8, "let a = " + key + ";");
            wrong(2, 8, "let a = " + key + "(1);");
            wrong(2, 12, "let a = 1 + " + key + ";");
        }
        for (String key : new String[] {"if", "sum", "max", "min"}) {
            wrong(2, 8 + key.length(), "let a = " + key + ";");
            wrong(2, 9 + key.length(), "let a = " + key + " + 1;");
        }
        wrong(2, 9, "rule r = let = 1;");
        wrong(2, 9, "rule r = and = 1;");
    }

    // ---- part 5: what it says

    private static void orAndNot() {
        Check.says("or: TRUE if one is, else OPEN if one is, else FALSE; and likewise the other way round; not");
        String[] part = {"1 = 2", "1 = 1", "u = 1"};
        int[][] or = {{0, 1, 2}, {1, 1, 1}, {2, 1, 2}};
        int[][] and = {{0, 0, 0}, {0, 1, 2}, {0, 2, 2}};
        for (int i = 0; i < 3; i++) {
            for (int j = 0; j < 3; j++) {
                verdict(part[i] + " or " + part[j], or[i][j]);
                verdict(part[i] + " and " + part[j], and[i][j]);
                for (int k = 0; k < 3; k++) {
                    verdict(part[i] + " or " + part[j] + " or " + part[k], or[or[i][j]][k]);
                    verdict(part[i] + " and " + part[j] + " and " + part[k], and[and[i][j]][k]);
                    verdict(part[i] + " or " + part[j] + " and " + part[k], or[i][and[j][k]]);
                    verdict("[" + part[i] + " or " + part[j] + "] and " + part[k], and[or[i][j]][k]);
                }
            }
        }
        verdict("not 1 = 1", 0);
        verdict("not 1 = 2", 1);
        verdict("not u = 1", 2);
        verdict("not not u = 1", 2);
        verdict("not 1 = 2 or 1 = 1", 1);
        verdict("not [1 = 2 or 1 = 1]", 0);
        verdict("not 1 = 1 and 1 = 2", 0);
        verdict("not [1 = 1 and 1 = 2]", 1);
    }

    private static void choices() {
        Check.says("but of if the SUM alone that it comes to (OPEN: none; UNDONE)");
        value("if(1 = 1, 2, 3)", 2, 1);
        value("if(1 = 2, 2, 3)", 3, 1);
        undone("if(u = 1, 2, 3)");
        undone("if(u = 1, 2, 2)");
        value("if(1 = 1, 2, u)", 2, 1);
        value("if(1 = 2, u, 3)", 3, 1);
        undone("if(1 = 1, u, 3)");
        steps("if(1 = 1, 1 + 1, 1 + 1 + 1) = 1", 1 + 3 + 3 + 2);
        steps("if(1 = 2, 1 + 1, 1 + 1 + 1) = 1", 1 + 3 + 5 + 2);
        steps("if(u = 1, 1 + 1, 1 + 1 + 1) = 1", 1 + 6 + 2);
        Check.says("All parts are worked out, from the left");
        steps("1 = 1 or u = 1", 3 + 1 + 6);
        steps("1 = 2 and u = 1", 3 + 1 + 6);
        steps("u * (1 + 1) = 1", 4 + 1 + 3 + 2);
        steps("1 / 0 / (1 + 1) = 1", 3 + 1 + 3 + 2);
    }

    private static void tableAt(String x, long above, long below) {
        Yard yard = text(AHEAD + "table q = -5:3, 0:0, 3:2, 10:-4; let x = q(" + x + ");");
        Check.due("above of q(" + x + ")", yard.let(3, 0), above);
        Check.due("below of q(" + x + ")", yard.let(3, 1), below);
    }

    private static void tables() {
        Check.says("A table: x at or below the first POINT's: its y");
        tableAt("-5", 3, 1);
        tableAt("-6", 3, 1);
        tableAt("-5 - 1 / 1000", 3, 1);
        tableAt("-m", 3, 1);
        Check.says("then for the POINTS in order, the first whose x is not below: its y if it is that x, "
                + "else ((x - X) * (Y' - Y)) / (X' - X) + Y, from POINT (X, Y) to (X', Y'), each act as in 4");
        tableAt("-5 + 1 / 10", 147, 50);
        tableAt("-1", 3, 5);
        tableAt("0", 0, 1);
        tableAt("1 / 2", 1, 3);
        tableAt("3", 2, 1);
        tableAt("4", 8, 7);
        tableAt("10 - 1 / 7", -190, 49);
        tableAt("10", -4, 1);
        Yard wide = text("table q = -999999999:-999999999, 0:0, 1:-999999999, 999999999:999999999; let a = q(999999999);"
                + "let b = q(999999999 - 1); let c = q(0); let d = q(-1);");
        Check.due("it is that x", wide.let(0, 0), 999999999);
        Check.due("just ahead of it: the product is beyond", wide.let(1, 0), NONE);
        Check.due("it is that x", wide.let(2, 0), 0);
        Check.due("just ahead of it", wide.let(3, 0), -1);
        Check.says("behind the last one: its y");
        tableAt("10 + 1 / 7", -4, 1);
        tableAt("11", -4, 1);
        tableAt("m", -4, 1);
        Yard x = text("table q = 7:9; let a = q(6); let b = q(7); let c = q(8); table r = -500000000:-500000000, 500000000:500000000;"
                + "let d = r(5); let e = r(1 / 3); let f = r(500000000); let g = r(500000000 - 1);");
        Check.due("of one POINT, below", x.let(0, 0), 9);
        Check.due("of one POINT, at", x.let(1, 0), 9);
        Check.due("of one POINT, behind", x.let(2, 0), 9);
        Check.due("of the widest one whose acts are all within 10^18", x.let(3, 0), 5);
        Check.due("a third, whose acts are not", x.let(4, 0), NONE);
        Check.due("its end", x.let(5, 0), 500000000);
        Check.due("just ahead of its end", x.let(6, 0), 499999999);
    }

    private static void tablesOnTheWay() {
        Check.says("(a comparison that is OPEN, met on the way: UNDONE)");
        tableAt("u", NONE, NONE);
        tableAt("1 / m", NONE, NONE);
        tableAt("-1 / m", NONE, NONE);
        Yard x = text(AHEAD + "table q = 0:0, 1:0, 1000000:0; let a = q(-1 / m); let b = q(1 / m); let c = q(1 + 1 / (t * 1000));"
                + "let d = q(1 + 1 / (t * 1000 + 1)); let e = q(m / 7); let f = q(1);");
        Check.due("at or below the first: the others are not met", x.let(3, 0), 0);
        Check.due("between the first two: the third is not met", x.let(4, 0), 0);
        Check.due("behind the second: 10^18 by the third", x.let(5, 0), 0);
        Check.due("behind the second: beyond by the third", x.let(6, 0), NONE);
        Check.due("behind the last one", x.let(7, 0), 0);
        Check.due("at the second: the third is not met", x.let(8, 0), 0);
        Check.says("each act as in 4");
        x = text(AHEAD + "table q = 0:0, 10:999999999; let a = q(1 / t / 11); let b = q(9 + 1 / t / 10);"
                + "table r = -10:0, 10:1; let c = r(-1 / (m / 10)); let d = r(1 / (m / 10)); let e = r(-1 / (m / 20));"
                + "table s = 0:5, 2:6; let f = s(1 / (m / 2)); let g = s(1 / (m / 10));"
                + "table v = 0:0, 2:1; let h = v(1 / (m / 2)); let i = s(1 / (m / 20));");
        Check.due("all within", x.let(3, 1) == NONE ? 0 : 1, 1);
        Check.due("times is beyond", x.let(4, 0), NONE);
        Check.due("by is beyond", x.let(5, 0), NONE);
        Check.due("less is beyond", x.let(6, 0), NONE);
        Check.due("by is 10^18", x.let(7, 0), 499999999999999999L);
        Check.due("c b of + is beyond", x.let(8, 0), NONE);
        Check.due("the sum of + is beyond", x.let(9, 0), NONE);
        Check.due("nothing is beyond", x.let(10, 1), MOST);
        Check.due("nothing is beyond", x.let(11, 0), MOST / 2 + 1);
    }

    private static void series() {
        Check.says("sum, max, min: from and to; UNDONE if one is, or no whole number, or there are more than 64 from from to to");
        for (String how : new String[] {"sum", "max", "min"}) {
            undone(how + "(k, u, 1, 1)");
            undone(how + "(k, 1, u, 1)");
            undone(how + "(k, 1 / 2, 1, 1)");
            undone(how + "(k, 1, 3 / 2, 1)");
            undone(how + "(k, 1, 65, 1)");
            undone(how + "(k, -32, 32, 1)");
            undone(how + "(k, -m, m, 1)");
            value(how + "(k, 1, 1, 7)", 7, 1);
            value(how + "(k, 4 / 2, 6 / 3, 7)", 7, 1);
        }
        value("sum(k, 1, 64, 1)", 64, 1);
        value("sum(k, -31, 32, k)", 32, 1);
        value("max(k, 1, 64, k)", 64, 1);
        value("min(k, -63, 0, k)", -63, 1);
        value("sum(k, m - 63, m, 1)", 64, 1);
        value("sum(k, -m, 63 - m, 1)", 64, 1);
        undone("sum(k, m - 64, m, 1)");
        value("max(k, m, m, k)", MOST, 1);
        value("min(k, -m, -m, k)", -MOST, 1);
        Check.says("then the last SUM for each, in order; sum begins with 0");
        value("sum(k, 1, 10, k * k)", 385, 1);
        value("sum(k, 1, 4, 1 / k)", 25, 12);
        undone("sum(k, 0, 1, 1 / k)");
        undone("sum(k, -1, 0, 1 / k)");
        value("sum(k, 0, 1, if(k = 0, m, -1))", MOST - 1, 1);
        undone("sum(k, 0, 2, if(k = 0, m, if(k = 1, 1, -2)))");
        value("sum(i, 1, 3, sum(j, i, 3, i * j))", 25, 1);
        value("sum(i, 1, 2, sum(j, 1, 2, 10 * i + j) * i)", 23 + 86, 1);
        Check.says("of none sum is 0, max, min UNDONE");
        value("sum(k, 2, 1, k)", 0, 1);
        value("sum(k, 1, 0, u)", 0, 1);
        value("sum(k, m, -m, 1)", 0, 1);
        value("sum(k, 100, 1, 1)", 0, 1);
        undone("max(k, 2, 1, k)");
        undone("min(k, 2, 1, k)");
        undone("max(k, m, -m, k)");
        undone("sum(k, 5 / 2, 1, 1)");
        undone("sum(k, u, -5, 1)");
    }

    private static void greatestAndLeast() {
        Check.says("max, min: the greatest, least (each less or more than the one by then: OPEN: UNDONE)");
        value("max(k, -3, 2, k * k)", 9, 1);
        value("max(k, -2, 3, k * k)", 9, 1);
        value("min(k, -3, 2, k * k)", 0, 1);
        value("max(k, -3, -1, k)", -1, 1);
        value("min(k, -3, -1, k)", -3, 1);
        value("max(k, 1, 5, (k - 3) * (3 - k))", 0, 1);
        value("min(k, 1, 5, (k - 3) * (k - 3))", 0, 1);
        value("max(k, 1, 3, 1 / k)", 1, 1);
        value("min(k, 1, 3, 1 / k)", 1, 3);
        for (String how : new String[] {"max", "min"}) {
            undone(how + "(k, 0, 0, 1 / k)");
            undone(how + "(k, 0, 2, 1 / k)");
            undone(how + "(k, -1, 1, 1 / k)");
            undone(how + "(k, -2, 0, 1 / k)");
            undone(how + "(k, 1, 2, if(k = 1, m, 1 / 2))");
            undone(how + "(k, 1, 3, if(k = 2, m, 1 / 2))");
            value(how + "(k, 1, 1, m)", MOST, 1);
            value(how + "(k, 1, 2, if(k = 1, m, m))", MOST, 1);
        }
        value("max(k, 1, 3, if(k = 2, m, 0 - k))", MOST, 1);
        value("min(k, 1, 3, if(k = 2, -m, k))", -MOST, 1);
    }

    private static void stepsOfEach() {
        Check.says("STEPS: one for each NUMBER, WORD, if, sum, max, min, each - FACTOR, + - * / , comparison, and, or, not "
                + "that is worked out; for a let's WORD those of its SUM, too");
        steps("1 = 1", 3);
        steps("((1)) = 1", 3);
        steps("-1 = 1", 4);
        steps("--1 = -1", 6);
        steps("1 + 1 = 1", 5);
        steps("1 - 1 * 1 / 1 = 1", 9);
        steps("length = breadth", 3);
        steps("level = 1", 3);
        steps("room(0) = 1", 4);
        steps("room(1 + 1) = 1", 6);
        steps("u = 1", 1 + 3 + 2);
        steps("u + u = 1", 4 + 4 + 1 + 2);
        steps("[[1 = 1]]", 3);
        steps("not 1 = 1", 4);
        steps("not not 1 = 1", 5);
        steps("1 = 1 or 1 = 1", 7);
        steps("1 = 1 and 1 = 1 and 1 = 1", 11);
        steps("sum(k, 1, 3, k) = 1", 1 + 2 + 3 + 2);
        steps("max(k, 1, 3, k + 1) = 1", 1 + 2 + 9 + 2);
        steps("min(k, 1, 0, k + 1) = 1", 1 + 2 + 2);
        steps("sum(k, 1, 65, k) = 1", 1 + 2 + 2);
        steps("sum(k, u, 5, k) = 1", 1 + 4 + 1 + 2);
        steps("sum(k, 5, u, k) = 1", 1 + 1 + 4 + 2);
        Check.says("(All rounds are worked out, UNDONE or not.)");
        steps("sum(k, 0, 4, 1 / k) = 1", 1 + 2 + 15 + 2);
        steps("max(k, 0, 4, 1 / k) = 1", 1 + 2 + 15 + 2);
        steps("sum(k, 0, 4, if(k = 1, 1, u)) = 1", 1 + 2 + 4 * (1 + 3 + 4) + (1 + 3 + 1) + 2);
        Yard x = text("table q = 1:1, 2:2; let a = q(1); let b = a + a; rule r = q(5) = 1; rule s = b = 1; rule t = q(1 / 0) = 1;");
        Check.due("a table's WORD", x.steps(0), 4);
        Check.due("lets of lets", x.steps(1), 1 + (3 + 3 + 1) + 2);
        Check.due("a table that is UNDONE", x.steps(2), 6);
    }

    /** A sum of so many STEPS, at least 9750 and not many more: what is missing are numbers. */
    private static String sumOf(int steps) {
        String most = "sum(i,1,64,sum(j,1,48,1+1))+sum(i,1,5,sum(j,1,64,1))";
        int had = 3 + 64 * (3 + 144) + 1 + 3 + 5 * (3 + 64);
        int missing = steps - had;
        StringBuilder s = new StringBuilder(most);
        if (missing % 2 != 0) {
            s.insert(0, "-");
            missing--;
        }
        return s.append(times(missing / 2, "+1")).toString();
    }

    private static void mostSteps() {
        Check.says("More than 10000 for one rule: it is OPEN, and STEPS are 10001");
        for (int steps = 9998; steps <= 10003; steps++) {
            Yard x = text("rule a = 1 = 1; rule b = " + sumOf(steps - 2) + " # 0; rule c = 1 = 1;");
            Check.due("verdict at " + steps, x.verdict(1), steps > 10000 ? 2 : 1);
            Check.due("steps at " + steps, x.steps(1), Math.min(10001, steps));
            Check.due("the rule ahead of it", x.verdict(0) + x.steps(0), 4);
            Check.due("the rule behind it", x.verdict(2) + x.steps(2), 4);
        }
        Yard x = text("rule a = 1 = 1 or sum(i, 1, 64, sum(j, 1, 64, 1 + 1)) # 0;");
        Check.due("TRUE with more STEPS is OPEN", x.verdict(0), 2);
        Check.due("its STEPS", x.steps(0), 10001);
        Check.says("for a let's WORD those of its SUM, too");
        for (int steps = 9996; steps <= 9999; steps++) {
            x = text("let v = " + sumOf(steps) + "; rule a = v # 0;");
            Check.due("verdict of a let of " + steps, x.verdict(0), steps + 3 > 10000 ? 2 : 1);
            Check.due("steps of a let of " + steps, x.steps(0), Math.min(10001, steps + 3));
        }
        Check.says("it is UNDONE, or its SUM takes more than 10000 STEPS");
        for (int steps = 9999; steps <= 10002; steps++) {
            x = text("let v = " + sumOf(steps) + "; let w = 1; let x = v;");
            Check.due("a let of " + steps, x.let(0, 1), steps > 10000 ? NONE : 1);
            Check.due("the let behind it", x.let(1, 0), 1);
            Check.due("a let of that let", x.let(2, 1), steps + 1 > 10000 ? NONE : 1);
        }
    }

    // ---- part 5: the yard's words

    /** Asks for sums as lets of one text, with what is worked out by then. */
    private static void sumsOf(Yard x, String[] sums, long[] dues) {
        StringBuilder text = new StringBuilder();
        for (int k = 0; k < sums.length; k++) {
            text.append("let ").append(RulesTest.name(k)).append('=').append(sums[k]).append(';');
        }
        int commits = x.told(0);
        Check.due("commit", Check.text(x, text.toString()), commits + 1);
        x.sea(0);
        x.nest(0);
        x.bars();
        x.lead();
        x.plan();
        for (int k = 0; k < sums.length; k++) {
            Check.due(sums[k], x.let(k, 0), dues[k]);
            Check.due("below of " + sums[k], x.let(k, 1), dues[k] == NONE ? NONE : 1);
        }
    }

    private static Yard box(int units) {
        Yard x = new Yard();
        x.open(0);
        Check.newRow(x, 0, 0, 100, 60);
        for (int s = 0; s < 16; s++) {
            x.put(0, 1, s, 8, 100);
        }
        Check.newRow(x, 3, 0, units, 4, 11);
        Check.due("commit", x.commit(0), 1);
        return x;
    }

    private static void wordsOfTheSea() {
        Check.says("Of sea(), if it RESTS: level, trim, heel (a, b, c by 64), water, weight (V, W by 1024), rounds; "
                + "draught(s) ((a + b (2 s - 15)) by 64), force(k), bend(k) (FORCE(k), BEND(k), both by 1024), k 0 .. 16; "
                + "lever(c) (U(TRIM(c), c), a whole c)");
        String[] sums = {"level", "trim", "heel", "water", "weight", "rounds", "draught(0)", "draught(15)", "draught(16)",
            "draught(-1)", "force(0)", "force(4)", "force(16)", "force(17)", "force(-1)", "bend(0)", "bend(8)", "bend(16)",
            "bend(17)", "bend(-1)", "lever(0)", "lever(2049)", "lever(-2049)", "lever(2048)+lever(-2048)", "lever(1/2)"};
        sumsOf(box(1600), sums, new long[] {50, 0, 0, 12800, 12800, 0, 50, 50, NONE, NONE, 0, -3200, 0, NONE, NONE, 0, -25600, 0,
            NONE, NONE, 0, NONE, NONE, 0, NONE});
        Check.says("THE YARD'S WORDS (UNDONE without what they are of)");
        long[] none = new long[sums.length];
        java.util.Arrays.fill(none, NONE);
        sumsOf(box(3200), sums, none);
        sumsOf(box(0), sums, none);
        Yard x = box(1600);
        Check.text(x, "let a = level; let b = rounds; let c = lever(0); let d = force(0);");
        for (int k = 0; k < 4; k++) {
            Check.due("not worked out: let(" + k + ", 0)", x.let(k, 0), NONE);
        }
        x.sea(0);
        Check.due("worked out", x.let(0, 0), 50);
        x.open(0);
        x.commit(0);
        Check.due("not worked out since", x.let(0, 0), NONE);
        x.sea(0);
        Check.due("worked out", x.let(0, 0), 50);
        x.crash(0);
        x.reopen();
        Check.due("not worked out since", x.let(0, 0), NONE);
        Check.says("draught(s) ((a + b (2 s - 15)) by 64)");
        x = new Yard();
        x.open(0);
        Check.newRow(x, 0, 0, 4, 1);
        Check.newRow(x, 1, 7, 0, 100, 100, 100, 100, 100, 100, 100, 100);
        Check.newRow(x, 3, 0, 2, 5, 5);
        Check.newRow(x, 2, 1, 1, 15, 15, 0, 15, 0, 9, 0);
        Check.newRow(x, 5, 0, 1, 0, 15, 448, -1, 1);
        x.commit(0);
        sumsOf(x, new String[] {"level", "trim", "heel", "rounds", "draught(0)", "draught(6)", "draught(7)", "draught(8)",
            "draught(15)"}, new long[] {-31, -32, 0, 1, 449, 65, 1, -63, -511});
        Check.says("level, trim, heel (a, b, c by 64)");
        x = box(1601);
        Check.text(x, "let a = level; let b = water; let c = weight; let d = lever(1); let e = lever(-2048);");
        x.sea(0);
        Check.due("lever(1)", x.let(3, 0), x.arm(1));
        Check.due("below of it", x.let(3, 1), 1);
        Check.due("lever(-2048)", x.let(4, 0), x.arm(-2048));
        Check.due("a", x.rest(5), 3202);
        Check.due("above", x.let(0, 0), 1601);
        Check.due("below", x.let(0, 1), 32);
        Check.due("V", x.let(1, 0), 12808);
        Check.due("W", x.let(2, 0), 12808);
    }

    private static void wordsOfTheModel() {
        Check.says("area(s), axis(s) (FIRST by AREA), second(s) (SECOND less FIRST FIRST by AREA, of fractions)");
        Yard x = new Yard();
        x.open(0);
        Check.newRow(x, 0, 0, 500, 7);
        Check.newRow(x, 6, 0, 3, 0, 0, 4, 5);
        Check.newRow(x, 6, 1, 1, 15, 15, 2000, 1000000000);
        Check.newRow(x, 6, 2, 2, 0, 0, 9, 1);
        x.commit(0);
        // Of SLICE 0: 5, 30, 48 + 5 + 162 + 1 = 216; 216 - 900 / 5 = 36.
        sumsOf(x, new String[] {"area(0)", "area(15)", "area(1)", "area(16)", "area(-1)", "axis(0)", "axis(15)", "axis(1)",
            "axis(16)", "axis(-1)", "second(0)", "second(15)", "second(1)", "second(16)", "second(-1)", "length", "breadth"},
                new long[] {5, 1, 0, NONE, NONE, 6, 2000, NONE, NONE, NONE, 36, 1000000000, NONE, NONE, NONE, 500, 7});
        Check.says("room(p) (a SPACE's COLUMNS between its HEIGHTS, in UNITS of HEIGHT, BOTTOMS and DECKS looked at, "
                + "what stands in it not), fill(p) (its UNITS), of a SPACE with KIND");
        x = new Yard();
        x.open(0);
        for (int s = 2; s < 5; s++) {
            Check.newRow(x, 1, s, 10, 20, 30, 40, 50, 60, 70, 80, 100);
        }
        Check.newRow(x, 2, 0, 1, 2, 3, 7, 8, 0, 2000, 0);
        Check.newRow(x, 2, 1, 2, 4, 4, 0, 15, 45, 55, 9);
        Check.newRow(x, 2, 2, 0, 2, 3, 7, 8, 0, 2000, 16);
        Check.newRow(x, 2, 15, 1, 2, 2, 0, 0, 0, 81, 16);
        Check.newRow(x, 2, 14, 2, 9, 9, 0, 15, 0, 2000, 16);
        Check.newRow(x, 4, 1, 8);
        // What stands ahead of the first SPACE and behind the last one is no SPACE.
        Check.newRow(x, 1, 15, 1, 2, 3, 4, 5, 6, 7, 8, 9);
        Check.newRow(x, 3, 0, 1, 0, 1, 2, 3);
        Check.newRow(x, 3, 1, 1, 0, 1, 2, 3);
        Check.newRow(x, 5, 0, 0, 1, 1, 1, 1, 1);
        Check.due("commit", x.commit(0), 1);
        sumsOf(x, new String[] {"room(0)", "room(1)", "room(2)", "room(15)", "room(16)", "room(-1)", "room(14)", "fill(0)",
            "fill(1)", "fill(2)", "fill(15)", "fill(16)", "fill(-1)", "fill(14)"},
                new long[] {360, 90, NONE, 1, NONE, NONE, 0, 0, 8, NONE, 0, NONE, NONE, 0});
    }

    private static void wordsOfTheWork() {
        Check.says("Of nest(): placed, left; of bars(): bars; of lead(): led, price(i) (a PIPE's cost); of plan(): end, start(t)");
        String[] sums = {"placed", "left", "bars", "led", "price(0)", "price(1)", "price(5)", "price(6)", "price(-1)", "end",
            "start(0)", "start(1)", "start(6)", "start(7)", "start(-1)"};
        Yard x = new Yard();
        x.open(0);
        Check.newRow(x, 0, 0, 1, 1, 10, 0, 3, 1, 1, 1);
        Check.newRow(x, 7, 0, 3, 0, 0, 0, 0, 0, 0, 0, 0, 0, 0, 0, 4);
        Check.newRow(x, 7, 1, 15, 0, 0, 0, 0, 0, 0, 0, 0, 0, 0, 0, 3);
        Check.newRow(x, 8, 0, 1, 9, 9, 9, 9, 7, 7);
        Check.newRow(x, 9, 0, 1, 0, 0, 0, 3, 0, 0);
        Check.newRow(x, 9, 1, 1, 9, 9, 7, 9, 9, 6);
        Check.newRow(x, 9, 5, 1, 5, 5, 5, 5, 5, 5);
        Check.newRow(x, 10, 0, 5, 1);
        Check.newRow(x, 10, 6, 2, 1);
        Check.newRow(x, 11, 0, 6);
        Check.newRow(x, 11, 8, 6);
        x.commit(0);
        long[] due = {4, 3, 2, 2, 6, NONE, 0, NONE, NONE, 7, 0, NONE, 5, NONE, NONE};
        sumsOf(x, sums, due);
        x.open(0);
        Check.due("a COMMIT", x.commit(0), 3);
        for (int k = 0; k < sums.length; k++) {
            Check.due("not worked out since: " + sums[k], x.let(k, 0), NONE);
        }
        x.nest(3);
        Check.due("placed", x.let(0, 0), 4);
        Check.due("bars are not worked out", x.let(2, 0), NONE);
        x.bars();
        Check.due("bars", x.let(2, 0), 2);
        Check.due("led is not worked out", x.let(3, 0), NONE);
        x.lead();
        Check.due("led", x.let(3, 0), 2);
        Check.due("end is not worked out", x.let(9, 0), NONE);
        x.plan();
        Check.due("end", x.let(9, 0), 7);
        Check.says("THE YARD'S WORDS (UNDONE without what they are of)");
        x.open(0);
        x.put(0, 11, 4, 0, 11);
        x.put(0, 10, 6, 1, 2);
        x.commit(0);
        Check.due("no bars", x.bars(), NO);
        Check.due("no PLAN", x.plan(), NO);
        Check.due("bars", x.let(2, 0), NONE);
        Check.due("end", x.let(9, 0), NONE);
        Check.due("start(0)", x.let(10, 0), NONE);
        x = new Yard();
        sumsOf(x, sums, new long[] {0, 0, 0, 0, NONE, NONE, NONE, NONE, NONE, 0, NONE, NONE, NONE, NONE, NONE});
    }

    private static void wholeNumbers() {
        Check.says("Those with ( ) want a whole number that is one of them, else they are UNDONE");
        Yard x = new Yard();
        x.open(0);
        Check.newRow(x, 6, 0, 3, 0, 15);
        x.commit(0);
        sumsOf(x, new String[] {"area(3)", "area(6/2)", "area(7/2)", "area(1/0)", "area(-0)", "area(999999999)",
            "area(999999999*999999999)", "area(-999999999*999999999)", "area(65536*65536)", "area(4096*1048576)",
            "room(65536*65536)", "lever(65536*65536)", "price(65536*65536)", "start(65536*65536)", "force(65536*65536)"},
                new long[] {3, 3, NONE, NONE, 3, NONE, NONE, NONE, NONE, NONE, NONE, NONE, NONE, NONE, NONE});
    }

    // ---- promises 22 to 25

    private static void rulesAndLets() {
        Check.says("How many rules, lets the TEXT has: what = 0, 1. BAD");
        Yard x = new Yard();
        Check.due("rules(0) without a TEXT", x.rules(0), 0);
        Check.due("rules(1) without a TEXT", x.rules(1), 0);
        Check.text(x, "let a = 1; table t = 1:1; rule r = a = 1; let b = 2; let c = 3;");
        Check.due("rules(0)", x.rules(0), 1);
        Check.due("rules(1)", x.rules(1), 3);
        for (int what : new int[] {-1, 2, Integer.MIN_VALUE, Integer.MAX_VALUE}) {
            Check.due("rules(" + what + ")", x.rules(what), BAD);
        }
        x.open(1);
        Check.tape(x, "let d = 1;");
        x.write(1);
        Check.due("what is not committed", x.rules(1), 3);
        x.leave(1);
        Check.due("a FAULT", Check.text(x, "let a = 1; let"), -447);
        Check.due("rules(1) behind a FAULT", x.rules(1), 3);
        Check.due("verdict behind a FAULT", x.verdict(0), 1);
        Check.due("undo", x.undo(1), 2);
        Check.due("rules(1) behind undo()", x.rules(1), 0);
        Check.says("A rule, by number from 0 on: 1 TRUE, 0 FALSE, 2 OPEN. BAD: none such");
        Check.due("verdict(0) behind undo()", x.verdict(0), BAD);
        Check.due("steps(0) behind undo()", x.steps(0), BAD);
        Check.text(x, "rule r = 1 = 1; rule s = 1 = 2; rule t = 1 / 0 = 1;");
        Check.due("TRUE", x.verdict(0), 1);
        Check.due("FALSE", x.verdict(1), 0);
        Check.due("OPEN", x.verdict(2), 2);
        for (int rule : new int[] {-1, 3, Integer.MIN_VALUE, Integer.MAX_VALUE}) {
            Check.due("verdict(" + rule + ")", x.verdict(rule), BAD);
            Check.due("steps(" + rule + ")", x.steps(rule), BAD);
        }
        Check.says("The STEPS of a rule as it would be worked out now");
        x = text("rule r = if(bars = 0, 1 + 1 + 1, 1) = 1;");
        Check.due("bars are UNDONE", x.steps(0), 1 + 3 + 2);
        x.bars();
        Check.due("no bars", x.steps(0), 1 + 3 + 5 + 2);
        x.open(0);
        x.put(0, 11, 0, 0, 1);
        x.commit(0);
        Check.due("bars are UNDONE", x.steps(0), 1 + 3 + 2);
        x.bars();
        Check.due("one bar", x.steps(0), 1 + 3 + 1 + 2);
        Check.due("verdict", x.verdict(0), 1);
    }

    private static void letAnswers() {
        Check.says("Of a let, by number from 0 on, as a fraction: which = 0 what is above, 1 what is below");
        Yard x = text("let a = 3 / 6; let b = -4 / 6; let c = 1 / 0; let d = 5;");
        long[][] due = {{1, 2}, {-2, 3}, {NONE, NONE}, {5, 1}};
        for (int k = 0; k < 4; k++) {
            Check.due("let(" + k + ", 0)", x.let(k, 0), due[k][0]);
            Check.due("let(" + k + ", 1)", x.let(k, 1), due[k][1]);
        }
        Check.says("NONE: no such let, which; DOWN; it is UNDONE, or its SUM takes more than 10000 STEPS");
        for (int k : new int[] {-1, 4, 39, 40, Integer.MIN_VALUE, Integer.MAX_VALUE}) {
            Check.due("let(" + k + ", 0)", x.let(k, 0), NONE);
            Check.due("let(" + k + ", 1)", x.let(k, 1), NONE);
        }
        for (int which : new int[] {-1, 2, Integer.MIN_VALUE, Integer.MAX_VALUE}) {
            Check.due("let(0, " + which + ")", x.let(0, which), NONE);
        }
        Check.text(x, "let a = 7;");
        Check.due("a shorter TEXT", x.let(0, 0), 7);
        Check.due("a let that it has not", x.let(1, 0), NONE);
        Check.due("a let that it has not", x.let(3, 0), NONE);
        x.crash(0);
        Check.due("DOWN", x.let(0, 0), NONE);
        x.reopen();
        Check.due("not DOWN", x.let(0, 0), 7);
        Check.text(x, "");
        Check.due("no TEXT", x.let(0, 0), NONE);
    }

    private static void lettersOfAllKinds() {
        Check.says("12 RULES, 1: 0 how many bytes its TEXT has (0 .. 1200)");
        String longest = "let a = 1" + times(595, "+1");
        right(longest.substring(0, 1199) + ";");
        wrong(2, 0, times(1200, ";"));
        wrong(2, 1200, "let a=1" + times(596, "+1") + "+");
        Yard x = text(longest.substring(0, 1199) + ";");
        Check.due("bytes", x.model(12, 0, 0), 1200);
        Check.due("a sum of 596", x.let(0, 0), 596);
        x.crash(0);
        Check.due("rules when DOWN", x.rules(1), DOWN);
        x.reopen();
        Check.due("a sum of 596 behind reopen()", x.let(0, 0), 596);
        Check.due("a product of 590", text("let a = 7" + times(589, "*1") + ";").let(0, 0), 7);
        Check.due("a product of 590", text("let a = 7" + times(588, "/1") + "/2;").let(0, 1), 2);
        x = text("rule r = " + times(168, "1=2 or ") + "1=1;");
        Check.due("one of 169 is TRUE", x.verdict(0), 1);
        Check.due("STEPS", x.steps(0), 4 * 168 + 3);
        x = text("rule r = " + times(147, "1=1 and ") + "1=2;");
        Check.due("one of 148 is FALSE", x.verdict(0), 0);
        Check.due("STEPS", x.steps(0), 4 * 147 + 3);
    }
}
