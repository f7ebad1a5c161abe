import java.math.BigInteger;
import java.util.ArrayList;
import java.util.HashMap;
import java.util.HashSet;
import java.util.List;
import java.util.Map;
import java.util.Random;
import java.util.Set;

/** Promises 22 to 25 and the text of rules: faults and values by hand, and random texts against a plain reader. */
public final class RulesTest {
    public static void main(String[] args) {
        refusals();
        faultsByHand();
        limits();
        valuesByHand();
        stepsByHand();
        wordsByHand();
        nothing();
        randomTexts();
        Check.end();
    }

    private static void refusals() {
        Yard x = new Yard();
        Check.text(x, "let a = 1; rule b = a = 1; rule c = a = 2;");
        Check.wild(n -> Check.due("rules(" + n + ")", x.rules(n), n == 0 ? 2 : n == 1 ? 1 : -1));
        Check.wild(n -> Check.due("verdict(" + n + ")", x.verdict(n), n == 0 ? 1 : n == 1 ? 0 : -1));
        Check.wild(n -> Check.due("steps(" + n + ")", x.steps(n), n == 0 || n == 1 ? 4 : -1));
        Check.wild(n -> Check.due("let(" + n + ", 0)", x.let(n, 0), n == 0 ? 1 : ShipYard.NONE));
        Check.wild(n -> Check.due("let(0, " + n + ")", x.let(0, n), n == 0 || n == 1 ? 1 : ShipYard.NONE));
    }

    // ---- faults

    static void fault(int kind, int at, String text) {
        Yard x = new Yard();
        Check.due("commit of '" + text + "'", Check.text(x, text), kind == 0 ? 1 : -447);
        Check.due("kind of '" + text + "'", x.told(5), kind);
        Check.due("byte of '" + text + "'", x.told(6), kind == 0 ? -2 : at);
        Reader reader = new Reader(text);
        Check.due("the reader's kind of '" + text + "'", reader.kind, kind);
        Check.due("the reader's byte of '" + text + "'", reader.at, kind == 0 ? 0 : at);
    }

    private static void faultsByHand() {
        fault(0, 0, "");
        fault(0, 0, " \n ");
        fault(1, 0, "\t");
        fault(1, 3, "let_");
        fault(1, 4, "let abcdefghi = 1;");
        fault(0, 0, "let abcdefgh = 999999999;");
        fault(1, 8, "let a = 1000000000;");
        fault(1, 8, "let a = 0000000000;");
        fault(1, 15, "let a ; = 1 let$");
        fault(1, 5, "let bA = 1;");
        fault(1, 1, " \u0000");
        fault(1, 0, "\u00ff");
        fault(2, 0, "a");
        fault(2, 0, ";");
        fault(2, 3, "let");
        fault(2, 4, "let 1");
        fault(4, 4, "let let");
        fault(4, 4, "let not = 1;");
        fault(4, 4, "let level = 1;");
        fault(4, 4, "let start = 1;");
        fault(4, 6, "table max = 1:1;");
        fault(4, 5, "rule bars = 1 = 1;");
        fault(2, 5, "let a");
        fault(2, 6, "let a < 1;");
        fault(2, 8, "let a = ;");
        fault(2, 7, "let a =");
        fault(2, 9, "let a = 1");
        fault(2, 10, "let a = 1 1;");
        fault(2, 8, "let a = let;");
        fault(2, 8, "let a = and;");
        fault(2, 8, "let a = not 1;");
        fault(2, 10, "let a = 1 = 1;");
        fault(2, 10, "let a = (1;");
        fault(2, 9, "let a = 1);");
        fault(3, 8, "let a = a;");
        fault(3, 8, "let a = x(1);");
        fault(4, 15, "let a = 1; let a = 2;");
        fault(4, 16, "let a = 1; rule a = 2 = 2;");
        fault(4, 17, "let a = 1; table a = 2:2;");
        fault(4, 20, "rule a = 1 = 1; let a = 2;");
        fault(3, 24, "rule a = 1 = 1; let b = a;");
        fault(2, 20, "let a = 1; let b = a(1);");
        fault(2, 25, "table t = 1:1; let b = t ;");
        fault(2, 24, "table t = 1:1; let b = t;");
        fault(0, 0, "table t = 1:1; let b = t(1);");
        fault(2, 26, "table t = 1:1; let b = t(1;");
        fault(2, 13, "let a = level(1);");
        fault(2, 12, "let a = room;");
        fault(0, 0, "let a = room(1) + level;");
        fault(2, 9, "rule a = ;");
        fault(2, 10, "rule a = 1;");
        fault(2, 12, "rule a = (1 < 2);");
        fault(0, 0, "rule a = [1 < 2] and not not [not 1 > 2 or 2 # 3];");
        fault(2, 15, "rule a = [1 < 2;");
        fault(2, 14, "rule a = 1 < 2];");
        fault(2, 15, "rule a = 1 < 2 < 3;");
        fault(2, 13, "rule a = 1 < < 2;");
        fault(2, 12, "rule a = 1 == 2;");
        fault(0, 0, "rule a = 1 <= 2 and 2 >= 1 and 1 = 1 and 1 # 2;");
        fault(2, 12, "rule a = 1 =< 2;");
        fault(2, 13, "rule a = 1 < = 2;");
        fault(2, 15, "rule a = 1 < 2 ,;");
        fault(2, 18, "rule a = 1 < 2 and;");
        fault(2, 17, "rule a = 1 < 2 or;");
        fault(2, 12, "rule a = not;");
        fault(2, 10, "let a = if;");
        fault(2, 11, "let a = if 1;");
        fault(0, 0, "let a = if(1 < 2, 3, 4);");
        fault(2, 12, "let a = if(1, 2, 3);");
        fault(2, 16, "let a = if(1 < 2; 3, 4);");
        fault(2, 19, "let a = if(1 < 2, 3);");
        fault(0, 0, "let a = sum(k, 1, 2, k) + max(k, 1, 2, k) - min(k, 1, 2, k);");
        fault(2, 12, "let a = sum(1, 1, 2, 3);");
        fault(4, 12, "let a = sum(if, 1, 2, 3);");
        fault(4, 12, "let a = sum(led, 1, 2, 3);");
        fault(0, 0, "let a = sum(a, 1, 2, a);");
        fault(4, 23, "let a = 1; let b = sum(a, 1, 2, a);");
        fault(3, 15, "let a = sum(k, k, 2, k);");
        fault(3, 18, "let a = sum(k, 1, k, k);");
        fault(3, 26, "let a = sum(k, 1, 2, k) + k;");
        fault(0, 0, "let a = sum(k, sum(k, 1, 2, k), max(k, 1, 2, k), k);");
        fault(4, 25, "let a = sum(k, 1, 2, sum(k, 1, 2, k));");
        fault(0, 0, "let a = sum(k, 1, 2, sum(j, 1, k, k + j)) + sum(j, 1, 2, sum(k, 1, 2, k));");
        fault(4, 38, "let a = sum(k, 1, 2, sum(j, 1, 2, sum(k, 1, 2, 3)));");
        fault(2, 22, "let a = sum(k, 1, 2, k(1));");
        fault(2, 19, "let a = sum(k, 1, 2);");
        fault(2, 22, "let a = sum(k, 1, 2, k, 3);");
        fault(2, 13, "let a = sum(k(1, 2, k);");
        fault(2, 11, "table a =  ;");
        fault(2, 11, "table a = 1;");
        fault(2, 12, "table a = 1:;");
        fault(2, 12, "table a = 1:+;");
        fault(2, 13, "table a = 1:-;");
        fault(0, 0, "table a = -1:-1, 0:0,1:-5;");
        fault(2, 11, "table a = --1:1;");
        fault(2, 10, "table a = (1):1;");
        fault(6, 15, "table a = 1:1, 1:2;");
        fault(6, 15, "table a = 1:1, 0:2;");
        fault(6, 16, "table a = -1:1, -1:2;");
        fault(6, 16, "table a = -1:1, - 2 2;");
        fault(2, 18, "table a = -1:1, - ;");
        fault(2, 14, "table a = 1:1,;");
        fault(2, 13, "table a = 1:1");
        fault(2, 14, "table a = 1:1,");
        fault(4, 30, "table a = 1:1; let b = 2; let a");
    }

    static String times(int n, String text) {
        return text.repeat(n);
    }

    static String name(int i) {
        return "n" + (char) ('a' + i / 26) + (char) ('a' + i % 26);
    }

    private static void limits() {
        StringBuilder lets = new StringBuilder();
        for (int i = 0; i < 40; i++) {
            lets.append("let " + name(i) + "=1;");
        }
        fault(0, 0, lets.toString());
        fault(5, lets.length(), lets + "let");
        fault(5, lets.length() + 1, lets + " let a = 1;");
        fault(2, lets.length(), lets.toString() + "a");
        StringBuilder tables = new StringBuilder();
        for (int i = 0; i < 8; i++) {
            tables.append("table " + name(i) + "=1:1;");
        }
        fault(0, 0, tables.toString());
        fault(5, tables.length(), tables + "table " + name(0));
        StringBuilder rules = new StringBuilder();
        for (int i = 0; i < 24; i++) {
            rules.append("rule " + name(i) + "=1=1;");
        }
        fault(0, 0, rules.toString());
        fault(5, rules.length(), rules + "rule");
        fault(0, 0, rules + "let a = 1;");
        StringBuilder points = new StringBuilder("table t = 0:0");
        for (int i = 1; i < 12; i++) {
            points.append("," + i + ":" + i);
        }
        fault(0, 0, points + ";");
        fault(5, points.length() + 1, points + ",");
        fault(5, points.length() + 1, points + ",0:0;");
        fault(5, points.length() + 2, points + ", let;");
        fault(0, 0, "let a = " + times(23, "(") + "1" + times(23, ")") + ";");
        fault(5, 32, "let a = " + times(24, "(") + "1" + times(24, ")") + ";");
        fault(5, 32, "let a = " + times(24, "("));
        fault(5, 32, "let a = " + times(24, "(") + ";");
        fault(0, 0, "let a = " + times(23, "-") + "1;");
        fault(5, 32, "let a = " + times(24, "-") + "1;");
        fault(0, 0, "rule a = " + times(22, "not ") + "1 = 1;");
        fault(5, 9 + 23 * 4, "rule a = " + times(23, "not ") + "1 = 1;");
        fault(5, 9 + 24 * 4, "rule a = " + times(24, "not ") + "1 = 1;");
        fault(0, 0, "rule a = " + times(22, "[") + "1 = 1" + times(22, "]") + ";");
        fault(5, 9 + 23, "rule a = " + times(23, "[") + "1 = 1" + times(23, "]") + ";");
        fault(0, 0, "let a = " + ifs(11) + ";");
        fault(5, 8 + 36, "let a = " + ifs(12) + ";");
        deep("if(", "=1,1,1)", 11, 3);
        deep("if(1=", ",1,1)", 11, 3);
        deep("if(1=1,", ",1)", 22, 3);
        deep("if(1=1,1,", ")", 22, 3);
        deep("sum(x,", ",1,1)", 23, 6);
        deep("max(x,1,", ",1)", 23, 6);
        deep("-", "", 23, 1);
        deep("(", ")", 23, 1);
        deep("1+(", ")", 23, 3);
        deep("2*(1+", ")*3", 23, 3);
        deep("room(", ")", 23, 5);
        deep("1-area(0+", ")", 23, 7);
        fault(2, 0, times(1200, ";"));
        fault(2, 1200, "rule a = " + times(595, "1+") + "1");
        fault(0, 0, "let a = " + times(595, "1+") + "1;");
        fault(0, 0, "rule a = " + times(130, "1=1 or ") + "1=1;");
        fault(0, 0, "let a = " + times(23, "room(") + "1" + times(23, ")") + ";");
        fault(5, 8 + 24 * 5, "let a = " + times(24, "room(") + "1" + times(24, ")") + ";");
        StringBuilder counters = new StringBuilder("1");
        for (int i = 0; i < 23; i++) {
            counters = new StringBuilder("sum(" + name(i) + ",1,1," + counters + ")");
        }
        fault(0, 0, "let a = " + counters + ";");
    }

    /** Puts a sum into itself as often as may be, and once more: then the fault is that far behind the last one. */
    private static void deep(String ahead, String behind, int most, int byteOfLast) {
        fault(0, 0, "let a = " + times(most, ahead) + "1" + times(most, behind) + ";");
        fault(5, 8 + most * ahead.length() + byteOfLast,
                "let a = " + times(most + 1, ahead) + "1" + times(most + 1, behind) + ";");
    }

    /** An if in an if's condition, so many times: each is a factor and has a not. */
    private static String ifs(int n) {
        String inner = "1";
        for (int i = 0; i < n; i++) {
            inner = "if(" + inner + "=1,1,1)";
        }
        return inner;
    }

    // ---- values

    private static void value(String sum, long above, long below) {
        Yard x = new Yard();
        Check.due("commit of '" + sum + "'", Check.text(x, "table t = -5:3, 0:0, 3:2, 10:-4; let a = " + sum + ";"), 1);
        Check.due("above of '" + sum + "'", x.let(0, 0), above);
        Check.due("below of '" + sum + "'", x.let(0, 1), below);
    }

    private static void undone(String sum) {
        value(sum, ShipYard.NONE, ShipYard.NONE);
    }

    private static void valuesByHand() {
        value("1", 1, 1);
        value("-0", 0, 1);
        value("6 / 4", 3, 2);
        value("6 / -4", -3, 2);
        value("- 6 / - 4", 3, 2);
        value("1 - 2 - 3", -4, 1);
        value("8 / 4 / 2", 1, 1);
        value("1 + 2 * 3", 7, 1);
        value("(1 + 2) * 3", 9, 1);
        value("1 / 2 + 1 / 3", 5, 6);
        value("1 / 2 - 1 / 3", 1, 6);
        value("2 / 3 * (3 / 4)", 1, 2);
        value("2 / 3 / (4 / 3)", 1, 2);
        undone("1 / 0");
        undone("0 / 0");
        undone("1 / 0 * 0");
        value("0 / 5", 0, 1);
        value("999999999 * 999999999", 999999998000000001L, 1);
        value("100000000 * 100000000 * 100", 1000000000000000000L, 1);
        undone("100000000 * 100000000 * 101");
        value("100000000 * 100000000 * 100 - 1", 999999999999999999L, 1);
        undone("100000000 * 100000000 * 100 + 1");
        undone("- 100000000 * 100000000 * 100 - 1");
        value("- (100000000 * 100000000 * 100)", -1000000000000000000L, 1);
        undone("100000000 * 100000000 * 100 / 3 * 2");
        undone("1 / 999999999 / 999999999 + 2 / 999999999 / 999999999");
        undone("1 / 999999999 / 999999999 - 1 / 999999999 / 999999999");
        value("1 / 999999999 / 999999999", 1, 999999998000000001L);
        value("t(-9)", 3, 1);
        value("t(-5)", 3, 1);
        value("t(-4)", 12, 5);
        value("t(0)", 0, 1);
        value("t(1)", 2, 3);
        value("t(3)", 2, 1);
        value("t(7 / 2)", 11, 7);
        value("t(10)", -4, 1);
        value("t(1 / 2 + 10)", -4, 1);
        undone("t(1 / 0)");
        undone("t(1 / 999999999 / 999999999)");
        undone("t(10 + 1 / 999999999 / 999999999 * 1000000)");
        value("t(-6 - 1 / 999999999)", 3, 1);
        value("sum(k, 1, 10, k * k)", 385, 1);
        value("sum(k, -2, 2, k)", 0, 1);
        value("sum(k, 2, 1, k)", 0, 1);
        value("sum(k, 1, 64, 1)", 64, 1);
        undone("sum(k, 1, 65, 1)");
        undone("sum(k, 1 / 2, 3, 1)");
        undone("sum(k, 1, 5 / 2, 1)");
        undone("sum(k, 1 / 0, 5, 1)");
        undone("sum(k, -1, 1, 1 / k)");
        value("max(k, -3, 2, k * k)", 9, 1);
        value("min(k, -3, 2, k * k)", 0, 1);
        value("max(k, 1, 1, 1 / k)", 1, 1);
        undone("max(k, 2, 1, k)");
        undone("min(k, 2, 1, k)");
        undone("max(k, 0, 1, 1 / k)");
        undone("max(k, -1, 0, 1 / k)");
        undone("min(k, 0, 0, 1 / k)");
        undone("max(k, 1, 2, (k - 1) * 999999999 * 999999999 + (2 - k) / 3)");
        value("max(i, 1, 3, sum(j, i, 3, j))", 6, 1);
        value("sum(k, 900000000 * 900000000, 900000000 * 900000000 + 1, 1)", 2, 1);
        value("if(1 < 2, 3, 1 / 0)", 3, 1);
        value("if(1 > 2, 1 / 0, 4)", 4, 1);
        undone("if(1 / 0 > 2, 3, 4)");
        value("if(1 / 0 > 2 or 1 = 1, 3, 4)", 3, 1);
        value(times(23, "1+(") + "1" + times(23, ")"), 24, 1);
        value(times(23, "1-2*(") + "1" + times(23, ")"), -5592405, 1);
        value(times(22, "if(1=1,") + "7" + times(22, ",1)"), 7, 1);
        value(times(11, "1*0+if(0+1*") + "1" + times(11, "=1 and 1=1 or 2=3,1,0)"), 1, 1);
        value(times(7, "if(not 1=") + "0" + times(7, ",1,0)"), 1, 1);
        value("length + breadth", 2, 1);
        undone("level");
        undone("bars");
        undone("end");
        undone("led");
        undone("placed + left");
    }

    private static void verdict(String rule, int due, int steps) {
        Yard x = new Yard();
        Check.due("commit of '" + rule + "'", Check.text(x, "let u = 1 / 0; let v = 2; rule r = " + rule + ";"), 1);
        Check.due("verdict of '" + rule + "'", x.verdict(0), due);
        Check.due("steps of '" + rule + "'", x.steps(0), steps);
    }

    private static void stepsByHand() {
        verdict("1 = 1", 1, 3);
        verdict("1 # 1", 0, 3);
        verdict("1 < 1", 0, 3);
        verdict("1 <= 1", 1, 3);
        verdict("1 > 1", 0, 3);
        verdict("1 >= 1", 1, 3);
        verdict("1 / 3 < 1 / 2", 1, 7);
        verdict("-1 < -(-1)", 1, 6);
        verdict("u = 1", 2, 6);
        verdict("u # u", 2, 9);
        verdict("not u = 1", 2, 7);
        verdict("not 1 = 1", 0, 4);
        verdict("not [1 = 2]", 1, 4);
        verdict("u = 1 or 1 = 1", 1, 10);
        verdict("1 = 1 or u = 1", 1, 10);
        verdict("u = 1 or 1 = 2", 2, 10);
        verdict("1 = 2 or u = 1", 2, 10);
        verdict("1 = 2 or 1 = 3 or 1 = 4", 0, 11);
        verdict("u = 1 and 1 = 1", 2, 10);
        verdict("u = 1 and 1 = 2", 0, 10);
        verdict("1 = 2 and u = 1", 0, 10);
        verdict("1 = 1 and 2 = 2", 1, 7);
        verdict("1 = 2 and 1 = 1 or 1 = 1", 1, 11);
        verdict("1 = 1 or 1 = 1 and 1 = 2", 1, 11);
        verdict("[1 = 1 or 1 = 1] and 1 = 2", 0, 11);
        verdict("v = 2", 1, 4);
        verdict("if(v = 2, 1 + 1, 1) = 2", 1, 10);
        verdict("if(v = 3, 1 + 1, 1) = 2", 0, 8);
        verdict("if(u = 3, 1 + 1, 1) = 2", 2, 9);
        verdict("sum(k, 1, 3, k) = 6", 1, 1 + 2 + 3 + 2);
        verdict("sum(k, u, 3, k) = 6", 2, 1 + 5 + 2);
        verdict("sum(k, 1, 65, k) = 6", 2, 1 + 2 + 2);
        verdict("max(k, 0, 9, 1 / k) = 6", 2, 1 + 2 + 30 + 2);
        verdict("room(0) = 6", 2, 4);
        verdict("999999999 * 999999999 / 7 < 1 / 5", 2, 9);
        verdict("sum(i, 1, 64, sum(j, 1, 64, j)) = 0", 0, 1 + 2 + 64 * (1 + 2 + 64) + 2);
        verdict("sum(i, 1, 64, sum(j, 1, 64, j * j)) = 0", 2, 10001);
        verdict("sum(i, 1, 64, sum(j, 1, 50, j * j)) + 1 > 0", 1, 1 + 2 + 64 * (3 + 150) + 4);
        exactly("sum(i, 1, 64, sum(k, 1, 49, 1 + 0)) + sum(i, 1, 2, sum(k, 1, 64, 1)) + sum(i, 1, 32, 1)");
        Yard x = new Yard();
        StringBuilder text = new StringBuilder("let a = 1 / 7;");
        for (char c = 'b'; c <= 'z'; c++) {
            text.append("let " + c + " = " + (char) (c - 1) + " + " + (char) (c - 1) + ";");
        }
        text.append("rule ra = z > 0; rule rb = l > 0; rule rc = k > 0; rule rd = if(1 = 1, 1, z) = 1;");
        Check.due("commit", Check.text(x, text.toString()), 1);
        int steps = 3;
        for (int k = 1; k < 26; k++) {
            steps = steps > 10000 ? steps : 2 * (steps + 1) + 1;
            Check.due("let " + k, x.let(k, 0), steps > 10000 ? ShipYard.NONE : 1 << k);
            Check.due("let " + k, x.let(k, 1), steps > 10000 ? ShipYard.NONE : 7);
            if (k == 11) {
                Check.due("steps of l", x.steps(1), Math.min(10001, steps + 3));
                Check.due("verdict of l", x.verdict(1), steps + 3 > 10000 ? 2 : 1);
            }
            if (k == 10) {
                Check.due("steps of k", x.steps(2), Math.min(10001, steps + 3));
                Check.due("verdict of k", x.verdict(2), 1);
            }
        }
        Check.due("steps of z", x.steps(0), 10001);
        Check.due("verdict of z", x.verdict(0), 2);
        Check.due("steps without z", x.steps(3), 7);
        Check.due("verdict without z", x.verdict(3), 1);
    }

    /** Pads a sum with numbers to 10000 steps and to one more. */
    private static void exactly(String sum) {
        Yard x = new Yard();
        Check.text(x, "rule r = " + sum + " > 0;");
        int steps = x.steps(0);
        Check.due("steps below 10000", steps < 10000 && steps > 9500 ? 1 : 0, 1);
        int missing = 10000 - steps;
        String pad = missing % 2 == 0 ? times(missing / 2, "+1") : " + -1" + times((missing - 3) / 2, "+1");
        Check.text(x, "let a = " + sum + pad + "; rule r = " + sum + pad + " > 0; rule s = -" + sum + pad + " > 0;");
        Check.due("steps", x.steps(0), 10000);
        Check.due("verdict", x.verdict(0), 1);
        Check.due("one more step", x.steps(1), 10001);
        Check.due("one more step", x.verdict(1), 2);
        Check.due("the let", x.let(0, 1), 1);
    }

    // ---- the yard's words

    static Yard ship(int height) {
        Yard x = new Yard();
        x.open(0);
        Check.newRow(x, 0, 0, 120, 70, 100, 2, 9, 7, 2, 1);
        for (int s = 0; s < 16; s++) {
            int low = Math.max(0, Math.abs(2 * s - 15) - 7) * 8;
            Check.newRow(x, 1, s, low, low, low, low, low + 10, low + 20, low + 30, low + 60, 200);
        }
        Check.newRow(x, 3, 0, 900, 0, 15, 0, height);
        Check.newRow(x, 3, 1, 300, 2, 5, 1, 30);
        Check.newRow(x, 2, 0, 1, 0, 3, 0, 7, 0, 200, 2);
        Check.newRow(x, 2, 3, 2, 6, 7, 3, 9, 10, 90, 2);
        Check.newRow(x, 4, 3, 300, 14);
        Check.newRow(x, 5, 0, 1, 4, 0, 20, 0, 3);
        Check.newRow(x, 6, 0, 30, 0, 15, 7, 100);
        Check.newRow(x, 6, 1, 20, 3, 8, 150, 700);
        Check.newRow(x, 7, 0, 7, 1, 1, 0, 0, 0, 0, 0, 0, 0, 0, 0, 3, 1);
        Check.newRow(x, 7, 5, 0xfffff, 1, 1, 0, 0, 0, 0, 0, 0, 0, 0, 0, 2, 1);
        Check.newRow(x, 8, 0, 1, 5, 5, 0, 8, 0, 7);
        Check.newRow(x, 9, 0, 1, 0, 2, 0, 9, 2, 0, 0);
        Check.newRow(x, 9, 2, 1, 5, 2, 0, 9, 2, 0, 0);
        Check.newRow(x, 10, 0, 3, 1, 0, 0, 0);
        Check.newRow(x, 10, 2, 4, 2, 1, 1, 1);
        for (int k = 0; k < 6; k++) {
            Check.newRow(x, 11, k, 20 + 9 * k);
        }
        Check.due("commit", x.commit(0), 1);
        return x;
    }

    /** What is worked out of nothing is 0, not undone. */
    private static void nothing() {
        Yard x = new Yard();
        Check.text(x, "let a = bars; let b = end; let c = led; let d = placed; let e = left; rule r = a + b + c + d + e = 0;");
        Check.due("not worked out", x.verdict(0), 2);
        x.bars();
        x.plan();
        x.lead();
        Check.due("not all worked out", x.verdict(0), 2);
        x.nest(0);
        Check.due("all are 0", x.verdict(0), 1);
        for (int k = 0; k < 5; k++) {
            Check.due("let " + k, x.let(k, 0), 0);
        }
    }

    private static void wordIs(Yard x, int k, long above, long below) {
        BigInteger g = BigInteger.valueOf(above).gcd(BigInteger.valueOf(below));
        long by = g.signum() == 0 ? 1 : g.longValue();
        Check.due("let(" + k + ", 0)", x.let(k, 0), below == 0 ? ShipYard.NONE : above / by);
        Check.due("let(" + k + ", 1)", x.let(k, 1), below == 0 ? ShipYard.NONE : below / by);
    }

    private static void wordsByHand() {
        Yard x = ship(60);
        String[] sums = {"level", "trim", "heel", "water", "weight", "rounds", "draught(0)", "draught(15)", "draught(16)",
            "draught(-1)", "force(0)", "force(16)", "force(17)", "bend(7)", "lever(100)", "lever(-2049)", "lever(1/2)",
            "length", "breadth", "area(4)", "area(16)", "axis(4)", "second(4)", "room(3)", "room(1)", "fill(3)", "fill(0)",
            "fill(2)", "placed", "left", "bars", "led", "price(0)", "price(2)", "end", "start(2)", "start(1)", "price(1)",
            "start(7)", "second(-1)"};
        StringBuilder text = new StringBuilder();
        for (int k = 0; k < sums.length; k++) {
            text.append("let " + name(k) + "=" + sums[k] + ";");
        }
        Check.due("commit", Check.text(x, text.toString()), 2);
        for (int round = 0; round < 2; round++) {
            boolean done = round == 1;
            if (done) {
                Check.due("sea", x.sea(1), 0);
                Check.due("nest", x.nest(0), 3);
                Check.due("bars", x.bars(), 3);
                Check.due("lead", x.lead(), 1);
                Check.due("plan", x.plan(), 7);
                Check.due("rounds", x.rest(1), 1);
            }
            int is = done ? 1 : 0;
            wordIs(x, 0, x.rest(5), 64 * is);
            wordIs(x, 1, x.rest(6), 64 * is);
            wordIs(x, 2, x.rest(7), 64 * is);
            wordIs(x, 3, x.rest(8), 1024 * is);
            wordIs(x, 4, x.rest(3), 1024 * is);
            wordIs(x, 5, x.rest(1), is);
            wordIs(x, 6, x.rest(5) - 15 * x.rest(6), 64 * is);
            wordIs(x, 7, x.rest(5) + 15 * x.rest(6), 64 * is);
            wordIs(x, 8, 0, 0);
            wordIs(x, 9, 0, 0);
            wordIs(x, 10, 0, is);
            wordIs(x, 11, x.along(1, 16), 1024 * is);
            wordIs(x, 12, 0, 0);
            wordIs(x, 13, x.along(2, 7), 1024 * is);
            wordIs(x, 14, x.arm(100), Math.abs(x.arm(100)) > 1000000000000000000L ? 0 : is);
            wordIs(x, 15, 0, 0);
            wordIs(x, 16, 0, 0);
            wordIs(x, 17, 120, 1);
            wordIs(x, 18, 70, 1);
            wordIs(x, 19, 50, 1);
            wordIs(x, 20, 0, 0);
            wordIs(x, 21, 30 * 7 + 20 * 150, 50);
            long first = 30 * 7 + 20 * 150;
            wordIs(x, 22, (30 * 49 + 100 + 20 * 150 * 150 + 700) * 50 - first * first, 50);
            wordIs(x, 23, 2 * 7 * 80, 1);
            wordIs(x, 24, 0, 0);
            wordIs(x, 25, 300, 1);
            wordIs(x, 26, 0, 1);
            wordIs(x, 27, 0, 0);
            wordIs(x, 28, 3, is);
            wordIs(x, 29, 2, is);
            wordIs(x, 30, 3, is);
            wordIs(x, 31, 1, is);
            wordIs(x, 32, x.way(0, 0), is);
            wordIs(x, 33, 0, 0);
            wordIs(x, 34, 7, is);
            wordIs(x, 35, 3, is);
            wordIs(x, 36, 0, 0);
            wordIs(x, 37, 0, 0);
            wordIs(x, 38, 0, 0);
            wordIs(x, 39, 0, 0);
        }
        x.open(0);
        x.put(0, 0, 0, 0, 500);
        x.put(0, 0, 0, 1, 500);
        x.put(0, 0, 0, 2, 10);
        x.put(0, 10, 0, 1, 3);
        x.commit(0);
        Check.due("bars", x.bars(), -2);
        Check.due("plan", x.plan(), -2);
        Check.due("sea", x.sea(0), 0);
        Check.due("no bars", x.let(30, 0), ShipYard.NONE);
        Check.due("no plan", x.let(34, 0), ShipYard.NONE);
        Check.due("no start", x.let(35, 0), ShipYard.NONE);
    }

    // ---- random texts

    private static final String[] PLAIN = {"level", "trim", "heel", "water", "weight", "rounds", "length", "breadth", "placed",
        "left", "bars", "led", "end"};
    private static final String[] OF = {"draught", "force", "bend", "lever", "area", "axis", "second", "room", "fill", "price",
        "start"};
    private static final String[] KEYS = {"let", "table", "rule", "if", "sum", "max", "min", "and", "or", "not"};

    private static void randomTexts() {
        int good = 0;
        int[] kinds = new int[7];
        Looks[] looks = new Looks[6];
        for (int i = 0; i < 6; i++) {
            looks[i] = new Looks(i < 3 ? 60 : 20, i % 3 - 1);
        }
        int height = 60;
        Yard x = ship(height);
        for (int seed = 0; seed < 6000; seed++) {
            if (x.left() < 120) {
                height = height == 60 ? 20 : 60;
                x = ship(height);
            }
            Random r = new Random(seed);
            String text = new Writer(r).text();
            if (seed % 3 != 0) {
                text = spoil(text, r);
            }
            if (text.length() > 1200) {
                text = text.substring(0, 1200);
            }
            Reader reader = new Reader(text);
            int commits = x.told(0);
            Check.due(seed + " commit of '" + text + "'", Check.text(x, text), reader.kind == 0 ? commits + 1 : -447);
            Check.due(seed + " kind of '" + text + "'", x.told(5), reader.kind);
            Check.due(seed + " byte of '" + text + "'", x.told(6), reader.kind == 0 ? -2 : reader.at);
            kinds[reader.kind]++;
            if (reader.kind == 0) {
                good++;
                int opened = seed % 2 == 0 ? r.nextInt(2) : -1;
                workOut(x, opened);
                compare(seed, x, reader, looks[(height == 60 ? 1 : 4) + opened]);
            }
        }
        StringBuilder told = new StringBuilder("random texts: good " + good + ", by faults");
        for (int kind = 1; kind < 7; kind++) {
            told.append(" " + kinds[kind]);
            Check.due("texts with fault " + kind, kinds[kind] > 5 ? 1 : 0, 1);
        }
        System.out.println(told);
    }

    private static String spoil(String text, Random r) {
        String[] bits = {"let ", "table ", "rule ", "if ", " and ", " or ", " not ", "(", ")", "[", "]", ",", ";", ":", "=", "#",
            "<", ">", "<=", ">=", "+", "-", "*", "/", "1", " 12 ", " x ", " level ", " room(1) ", "sum(", " k ", "\n", "?",
            "abcdefghijkl", "1234567890", "table q = 1:1, 1:2;", " ((((((((((((((((((((((((((", " q "};
        StringBuilder s = new StringBuilder(text);
        int n = 1 + r.nextInt(2);
        for (int i = 0; i < n; i++) {
            int at = r.nextInt(s.length() + 1);
            int what = r.nextInt(4);
            if (what == 0) {
                s.insert(at, bits[r.nextInt(bits.length)]);
            } else if (what == 1) {
                s.delete(at, Math.min(s.length(), at + 1 + r.nextInt(4)));
            } else if (what == 2) {
                s.setLength(at);
            } else if (s.length() > 4) {
                int from = r.nextInt(s.length());
                int to = Math.min(s.length(), from + r.nextInt(12));
                s.insert(at, s.substring(from, to));
            }
        }
        return s.toString();
    }

    /** Works all out, with the sea in some spaces; -1: nothing. */
    private static void workOut(Yard x, int opened) {
        if (opened >= 0) {
            x.sea(opened);
            x.nest(0);
            x.bars();
            x.lead();
            x.plan();
        }
    }

    private static void compare(int seed, Yard x, Reader reader, Looks looks) {
        Check.due(seed + " rules", x.rules(0), reader.rules.size());
        Check.due(seed + " lets", x.rules(1), reader.lets.size());
        for (int k = 0; k < reader.rules.size(); k++) {
            Meter m = new Meter(looks, reader);
            int due = m.verdict(reader.rules.get(k));
            Check.due(seed + " verdict(" + k + ") of '" + reader.text + "'", x.verdict(k), due);
            Check.due(seed + " steps(" + k + ") of '" + reader.text + "'", x.steps(k), m.steps);
        }
        for (int k = 0; k < reader.lets.size(); k++) {
            Meter m = new Meter(looks, reader);
            BigInteger[] due = m.letValue(reader.lets.get(k));
            Check.due(seed + " let(" + k + ", 0) of '" + reader.text + "'", x.let(k, 0),
                    due == null ? ShipYard.NONE : due[0].longValueExact());
            Check.due(seed + " let(" + k + ", 1) of '" + reader.text + "'", x.let(k, 1),
                    due == null ? ShipYard.NONE : due[1].longValueExact());
        }
    }

    /** Writes texts that are mostly right. */
    private static final class Writer {
        final Random r;
        final List<String> lets = new ArrayList<>();
        final List<String> tables = new ArrayList<>();
        final List<String> counters = new ArrayList<>();
        int names = 0;

        Writer(Random r) {
            this.r = r;
        }

        String text() {
            StringBuilder s = new StringBuilder();
            int n = 1 + r.nextInt(8);
            for (int i = 0; i < n; i++) {
                String name = "w" + (char) ('a' + names++);
                int what = r.nextInt(5);
                if (what == 0) {
                    s.append("table " + name + " = ");
                    int x = r.nextInt(20) - 10;
                    int points = 1 + r.nextInt(5);
                    for (int j = 0; j < points; j++) {
                        s.append((j > 0 ? ", " : "") + x + ":" + (r.nextInt(50) - 25));
                        x += 1 + r.nextInt(9);
                    }
                    s.append(";\n");
                    tables.add(name);
                } else if (what < 3) {
                    s.append("let " + name + " = " + sum(3) + ";");
                    lets.add(name);
                } else {
                    s.append("rule " + name + "=" + cond(2) + ";");
                }
            }
            return s.toString();
        }

        String cond(int d) {
            String[] how = {"=", "#", "<", ">", "<=", ">="};
            int what = d <= 0 ? 0 : r.nextInt(6);
            switch (what) {
                case 1: return cond(d - 1) + " or " + cond(d - 1);
                case 2: return cond(d - 1) + " and " + cond(d - 1);
                case 3: return "not " + cond(d - 1);
                case 4: return "[" + cond(d - 1) + "]";
                default: return sum(d) + " " + how[r.nextInt(6)] + " " + sum(d - 1);
            }
        }

        String sum(int d) {
            int what = d <= 0 ? r.nextInt(3) : r.nextInt(16);
            if (what == 0) {
                return "" + (r.nextInt(8) == 0 ? r.nextInt(1000000000) : r.nextInt(17));
            }
            if (what == 1 && !lets.isEmpty()) {
                return lets.get(r.nextInt(lets.size()));
            }
            if (what < 3 && !counters.isEmpty()) {
                return counters.get(r.nextInt(counters.size()));
            }
            switch (what) {
                case 3: return "-" + sum(d - 1);
                case 4: return "(" + sum(d - 1) + ")";
                case 5: return sum(d - 1) + " + " + sum(d - 1);
                case 6: return sum(d - 1) + "-" + sum(d - 1);
                case 7: return sum(d - 1) + "*" + sum(d - 1);
                case 8: return sum(d - 1) + "/" + sum(d - 1);
                case 9: return "if(" + cond(d - 1) + "," + sum(d - 1) + ", " + sum(d - 1) + ")";
                case 10: case 11:
                    String name = "c" + (char) ('a' + counters.size());
                    String from = r.nextBoolean() ? "0" : sum(d - 1);
                    String to = r.nextBoolean() ? "" + r.nextInt(40) : sum(d - 1);
                    counters.add(name);
                    String each = sum(d - 1);
                    counters.remove(name);
                    return KEYS[4 + r.nextInt(3)] + "(" + name + "," + from + "," + to + "," + each + ")";
                case 12:
                    return tables.isEmpty() ? "3" : tables.get(r.nextInt(tables.size())) + "(" + sum(d - 1) + ")";
                case 13: case 14: return OF[r.nextInt(OF.length)] + "(" + sum(d - 1) + ")";
                case 15: return PLAIN[r.nextInt(PLAIN.length)];
                default: return "" + r.nextInt(9);
            }
        }
    }

    /** A part of a text that was read. */
    private static final class Part {
        final String what;
        final List<Part> parts = new ArrayList<>();

        Part(String what, Part... parts) {
            this.what = what;
            this.parts.addAll(List.of(parts));
        }
    }

    private static final class Fault extends RuntimeException {
    }

    /** Reads a text into parts, or finds its fault. */
    private static final class Reader {
        final String text;
        int kind = 0;
        int at = 0;
        final List<String> tokens = new ArrayList<>();
        final List<Integer> bytes = new ArrayList<>();
        final List<Part> lets = new ArrayList<>();
        final List<Part> rules = new ArrayList<>();
        final Map<String, Part> letNamed = new HashMap<>();
        final Map<String, int[]> tables = new HashMap<>();
        final Set<String> taken = new HashSet<>();
        final List<String> counters = new ArrayList<>();
        int now = 0;

        Reader(String text) {
            this.text = text;
            try {
                split();
                while (now < tokens.size() - 1) {
                    statement();
                }
            } catch (Fault f) {
                // kind and at tell it
            }
        }

        Fault fault(int kind, int token) {
            this.kind = kind;
            at = bytes.get(token);
            return new Fault();
        }

        void split() {
            int i = 0;
            while (i < text.length()) {
                java.util.regex.Matcher m = java.util.regex.Pattern
                        .compile("[ \n]|[a-z]+|[0-9]+|<=|>=|[-+*/()\\[\\],;:=#<>]").matcher(text).region(i, text.length());
                boolean found = m.lookingAt();
                String token = found ? m.group() : "";
                if (!found || token.matches("[a-z]{9,}") || token.matches("[0-9]{10,}")) {
                    kind = 1;
                    at = i;
                    throw new Fault();
                }
                if (!token.equals(" ") && !token.equals("\n")) {
                    tokens.add(token);
                    bytes.add(i);
                }
                i += token.length();
            }
            tokens.add("");
            bytes.add(text.length());
        }

        boolean at(String token) {
            return tokens.get(now).equals(token);
        }

        void want(String token) {
            if (!at(token)) {
                throw fault(2, now);
            }
            now++;
        }

        boolean isWord(String token) {
            return token.matches("[a-z]+");
        }

        String newName() {
            String name = tokens.get(now);
            if (isWord(name) && (List.of(KEYS).contains(name) || List.of(PLAIN).contains(name) || List.of(OF).contains(name)
                    || taken.contains(name) || counters.contains(name))) {
                throw fault(4, now);
            }
            if (!isWord(name)) {
                throw fault(2, now);
            }
            now++;
            return name;
        }

        void statement() {
            String what = tokens.get(now);
            if (what.equals("let") && lets.size() == 40 || what.equals("table") && tables.size() == 8
                    || what.equals("rule") && rules.size() == 24) {
                throw fault(5, now);
            }
            if (!what.equals("let") && !what.equals("table") && !what.equals("rule")) {
                throw fault(2, now);
            }
            now++;
            String name = newName();
            want("=");
            if (what.equals("let")) {
                Part sum = sum(1);
                want(";");
                lets.add(sum);
                letNamed.put(name, sum);
            } else if (what.equals("rule")) {
                Part cond = cond(1);
                want(";");
                rules.add(cond);
            } else {
                List<Integer> points = new ArrayList<>();
                do {
                    if (points.size() == 24) {
                        throw fault(5, now);
                    }
                    int first = now;
                    int x = signed();
                    if (!points.isEmpty() && x <= points.get(points.size() - 2)) {
                        throw fault(6, first);
                    }
                    want(":");
                    points.add(x);
                    points.add(signed());
                } while (at(",") && now++ >= 0);
                want(";");
                tables.put(name, points.stream().mapToInt(i -> i).toArray());
            }
            taken.add(name);
        }

        int signed() {
            boolean minus = at("-");
            now += minus ? 1 : 0;
            if (!tokens.get(now).matches("[0-9]+")) {
                throw fault(2, now);
            }
            int v = Integer.parseInt(tokens.get(now));
            now++;
            return minus ? -v : v;
        }

        Part cond(int depth) {
            Part all = new Part("or", and(depth));
            while (at("or")) {
                now++;
                all.parts.add(and(depth));
            }
            return all;
        }

        Part and(int depth) {
            Part all = new Part("and", not(depth));
            while (at("and")) {
                now++;
                all.parts.add(not(depth));
            }
            return all;
        }

        Part not(int depth) {
            if (depth == 25) {
                throw fault(5, now);
            }
            if (at("not")) {
                now++;
                return new Part("not", not(depth + 1));
            }
            if (at("[")) {
                now++;
                Part cond = cond(depth + 1);
                want("]");
                return cond;
            }
            Part left = sum(depth + 1);
            String how = tokens.get(now);
            if (!List.of("=", "#", "<", ">", "<=", ">=").contains(how)) {
                throw fault(2, now);
            }
            now++;
            return new Part(how, left, sum(depth + 1));
        }

        Part sum(int depth) {
            Part left = product(depth);
            while (at("+") || at("-")) {
                now++;
                left = new Part(tokens.get(now - 1), left, product(depth));
            }
            return left;
        }

        Part product(int depth) {
            Part left = factor(depth);
            while (at("*") || at("/")) {
                now++;
                left = new Part(tokens.get(now - 1), left, factor(depth));
            }
            return left;
        }

        Part factor(int depth) {
            if (depth == 25) {
                throw fault(5, now);
            }
            String token = tokens.get(now);
            if (token.equals("-")) {
                now++;
                return new Part("minus", factor(depth + 1));
            }
            if (token.matches("[0-9]+")) {
                now++;
                return new Part(token);
            }
            if (token.equals("(")) {
                now++;
                Part sum = sum(depth + 1);
                want(")");
                return sum;
            }
            if (token.equals("if")) {
                now++;
                want("(");
                Part cond = cond(depth + 1);
                want(",");
                Part one = sum(depth + 1);
                want(",");
                Part other = sum(depth + 1);
                want(")");
                return new Part("if", cond, one, other);
            }
            if (token.equals("sum") || token.equals("max") || token.equals("min")) {
                now++;
                want("(");
                String name = newName();
                want(",");
                Part from = sum(depth + 1);
                want(",");
                Part to = sum(depth + 1);
                want(",");
                counters.add(name);
                Part each = sum(depth + 1);
                counters.remove(counters.size() - 1);
                want(")");
                return new Part(token, new Part(name), from, to, each);
            }
            if (!isWord(token) || List.of(KEYS).contains(token)) {
                throw fault(2, now);
            }
            now++;
            if (counters.contains(token)) {
                return new Part("counter", new Part(token));
            }
            if (letNamed.containsKey(token)) {
                return new Part("let", new Part(token));
            }
            if (List.of(PLAIN).contains(token)) {
                return new Part("word", new Part(token));
            }
            if (!tables.containsKey(token) && !List.of(OF).contains(token)) {
                throw fault(3, now - 1);
            }
            want("(");
            Part sum = sum(depth + 1);
            want(")");
            return new Part("of", new Part(token), sum);
        }
    }

    /** What a ship answers in one state: each thing is asked once, of as many objects as that needs. */
    private static final class Looks {
        private final int height;
        private final int opened;
        private Yard yard;
        private final Map<String, Long> known = new HashMap<>();

        Looks(int height, int opened) {
            this.height = height;
            this.opened = opened;
        }

        private long look(String call, int a, int b, int c) {
            return known.computeIfAbsent(call + " " + a + " " + b + " " + c, key -> ask(call, a, b, c));
        }

        private long ask(String call, int a, int b, int c) {
            if (yard == null || yard.left() < 1) {
                yard = ship(height);
                workOut(yard, opened);
            }
            switch (call) {
                case "rest": return yard.rest(a);
                case "along": return yard.along(a, b);
                case "arm": return yard.arm(a);
                case "model": return yard.model(a, b, c);
                case "sheet": return yard.sheet(a, b);
                case "piece": return yard.piece(a, b);
                case "rod": return yard.rod(a);
                case "way": return yard.way(a, b);
                case "task": return yard.task(a, b);
                case "bars": return yard.bars();
                case "lead": return yard.lead();
                default: return yard.plan();
            }
        }

        long rest(int what) {
            return look("rest", what, 0, 0);
        }

        long along(int what, int k) {
            return look("along", what, k, 0);
        }

        long arm(int c) {
            return look("arm", c, 0, 0);
        }

        int model(int table, int row, int field) {
            return (int) look("model", table, row, field);
        }

        int sheet(int s, int what) {
            return (int) look("sheet", s, what, 0);
        }

        int piece(int k, int what) {
            return (int) look("piece", k, what, 0);
        }

        int rod(int k) {
            return (int) look("rod", k, 0, 0);
        }

        int way(int pipe, int what) {
            return (int) look("way", pipe, what, 0);
        }

        int task(int t, int what) {
            return (int) look("task", t, what, 0);
        }

        int bars() {
            return (int) look("bars", 0, 0, 0);
        }

        int lead() {
            return (int) look("lead", 0, 0, 0);
        }

        int plan() {
            return (int) look("plan", 0, 0, 0);
        }
    }

    private static final class Over extends RuntimeException {
    }

    /** Works parts out with whole numbers of any size, lets anew each time; null is UNDONE. */
    private static final class Meter {
        static final BigInteger MOST = BigInteger.TEN.pow(18);
        final Looks x;
        final Reader reader;
        final Map<String, BigInteger> counters = new HashMap<>();
        int steps = 0;

        Meter(Looks x, Reader reader) {
            this.x = x;
            this.reader = reader;
        }

        int verdict(Part rule) {
            try {
                return truth(rule);
            } catch (Over over) {
                return 2;
            }
        }

        BigInteger[] letValue(Part sum) {
            try {
                return number(sum);
            } catch (Over over) {
                return null;
            }
        }

        void step() {
            steps++;
            if (steps > 10000) {
                throw new Over();
            }
        }

        int truth(Part p) {
            if (p.what.equals("or") || p.what.equals("and")) {
                int decides = p.what.equals("or") ? 1 : 0;
                boolean one = false;
                boolean open = false;
                for (int i = 0; i < p.parts.size(); i++) {
                    int got = truth(p.parts.get(i));
                    one |= got == decides;
                    open |= got == 2;
                    if (i > 0) {
                        step();
                    }
                }
                return one ? decides : open ? 2 : 1 - decides;
            }
            if (p.what.equals("not")) {
                int got = truth(p.parts.get(0));
                step();
                return got == 2 ? 2 : 1 - got;
            }
            BigInteger[] left = number(p.parts.get(0));
            BigInteger[] right = number(p.parts.get(1));
            step();
            Integer order = order(left, right);
            if (order == null) {
                return 2;
            }
            switch (p.what) {
                case "=": return order == 0 ? 1 : 0;
                case "#": return order != 0 ? 1 : 0;
                case "<": return order < 0 ? 1 : 0;
                case ">": return order > 0 ? 1 : 0;
                case "<=": return order <= 0 ? 1 : 0;
                default: return order >= 0 ? 1 : 0;
            }
        }

        static boolean beyond(BigInteger v) {
            return v.abs().compareTo(MOST) > 0;
        }

        static Integer order(BigInteger[] left, BigInteger[] right) {
            if (left == null || right == null) {
                return null;
            }
            BigInteger one = left[0].multiply(right[1]);
            BigInteger other = right[0].multiply(left[1]);
            return beyond(one) || beyond(other) ? null : (Integer) one.compareTo(other);
        }

        static BigInteger[] fraction(BigInteger above, BigInteger below) {
            if (below.signum() == 0 || beyond(above) || beyond(below)) {
                return null;
            }
            BigInteger g = above.gcd(below).multiply(BigInteger.valueOf(below.signum()));
            return new BigInteger[] {above.divide(g), below.divide(g)};
        }

        static BigInteger[] whole(long v) {
            return fraction(BigInteger.valueOf(v), BigInteger.ONE);
        }

        static BigInteger[] act(String how, BigInteger[] left, BigInteger[] right) {
            if (left == null || right == null) {
                return null;
            }
            BigInteger a = left[0];
            BigInteger b = left[1];
            BigInteger c = right[0];
            BigInteger d = right[1];
            if (how.equals("*")) {
                return fraction(a.multiply(c), b.multiply(d));
            }
            if (how.equals("/")) {
                return fraction(a.multiply(d), b.multiply(c));
            }
            BigInteger one = a.multiply(d);
            BigInteger other = c.multiply(b);
            if (beyond(one) || beyond(other)) {
                return null;
            }
            return fraction(how.equals("+") ? one.add(other) : one.subtract(other), b.multiply(d));
        }

        BigInteger[] number(Part p) {
            String what = p.what;
            if (List.of("+", "-", "*", "/").contains(what)) {
                BigInteger[] left = number(p.parts.get(0));
                BigInteger[] right = number(p.parts.get(1));
                step();
                return act(what, left, right);
            }
            step();
            switch (what) {
                case "minus":
                    BigInteger[] v = number(p.parts.get(0));
                    return v == null ? null : new BigInteger[] {v[0].negate(), v[1]};
                case "counter": return fraction(counters.get(p.parts.get(0).what), BigInteger.ONE);
                case "let": return number(reader.letNamed.get(p.parts.get(0).what));
                case "word": return word(p.parts.get(0).what);
                case "of": return of(p.parts.get(0).what, number(p.parts.get(1)));
                case "if":
                    int when = truth(p.parts.get(0));
                    return when == 2 ? null : number(p.parts.get(when == 1 ? 1 : 2));
                case "sum": case "max": case "min": return series(p);
                default: return whole(Integer.parseInt(what));
            }
        }

        BigInteger[] series(Part p) {
            BigInteger[] from = number(p.parts.get(1));
            BigInteger[] to = number(p.parts.get(2));
            if (from == null || to == null || !from[1].equals(BigInteger.ONE) || !to[1].equals(BigInteger.ONE)
                    || to[0].subtract(from[0]).compareTo(BigInteger.valueOf(63)) > 0) {
                return null;
            }
            String name = p.parts.get(0).what;
            BigInteger[] got = p.what.equals("sum") ? whole(0) : null;
            boolean first = true;
            for (BigInteger i = from[0]; i.compareTo(to[0]) <= 0; i = i.add(BigInteger.ONE)) {
                BigInteger old = counters.put(name, i);
                BigInteger[] next = number(p.parts.get(3));
                counters.put(name, old);
                if (p.what.equals("sum")) {
                    got = act("+", got, next);
                } else if (first) {
                    got = next;
                } else {
                    Integer order = order(next, got);
                    got = order == null ? null : (p.what.equals("max") ? order > 0 : order < 0) ? next : got;
                }
                first = false;
            }
            return got;
        }

        BigInteger[] by(long above, long below) {
            return fraction(BigInteger.valueOf(above), BigInteger.valueOf(below));
        }

        BigInteger[] told(int answer) {
            return answer < 0 ? null : whole(answer);
        }

        BigInteger[] word(String w) {
            boolean rests = x.rest(0) == 0;
            switch (w) {
                case "level": return rests ? by(x.rest(5), 64) : null;
                case "trim": return rests ? by(x.rest(6), 64) : null;
                case "heel": return rests ? by(x.rest(7), 64) : null;
                case "water": return rests ? by(x.rest(8), 1024) : null;
                case "weight": return rests ? by(x.rest(3), 1024) : null;
                case "rounds": return rests ? whole(x.rest(1)) : null;
                case "length": return whole(x.model(0, 0, 0));
                case "breadth": return whole(x.model(0, 0, 1));
                case "placed": return x.sheet(0, 0) < 0 ? null : whole(count(true));
                case "left": return x.sheet(0, 0) < 0 ? null : whole(count(false));
                case "bars": return x.rod(0) < 0 ? null : told(x.bars());
                case "led": return x.way(0, 0) < 0 ? null : told(x.lead());
                default: return x.task(0, 0) < 0 ? null : told(x.plan());
            }
        }

        int count(boolean placed) {
            int n = 0;
            for (int k = 0; x.piece(k, 0) >= 0; k++) {
                n += x.piece(k, 1) >= 0 == placed ? 1 : 0;
            }
            return n;
        }

        BigInteger[] of(String w, BigInteger[] v) {
            if (reader.tables.containsKey(w)) {
                return table(reader.tables.get(w), v);
            }
            if (v == null || !v[1].equals(BigInteger.ONE) || v[0].abs().compareTo(BigInteger.valueOf(5000)) > 0) {
                return null;
            }
            int k = v[0].intValue();
            boolean rests = x.rest(0) == 0;
            boolean slice = k >= 0 && k < 16;
            boolean kind = slice && x.model(2, k, 0) > 0;
            switch (w) {
                case "draught": return rests && slice ? by(x.rest(5) + x.rest(6) * (2 * k - 15), 64) : null;
                case "force": return rests && k >= 0 && k < 17 ? by(x.along(1, k), 1024) : null;
                case "bend": return rests && k >= 0 && k < 17 ? by(x.along(2, k), 1024) : null;
                case "lever": return x.arm(k) == ShipYard.NONE ? null : by(x.arm(k), 1);
                case "area": return slice ? whole(x.along(3, k)) : null;
                case "axis": return slice ? by(x.along(4, k), x.along(3, k)) : null;
                case "second":
                    if (!slice) {
                        return null;
                    }
                    BigInteger[] first = whole(x.along(4, k));
                    return act("-", whole(x.along(5, k)), act("/", act("*", first, first), whole(x.along(3, k))));
                case "room": return kind ? whole(room(k)) : null;
                case "fill": return kind ? whole(x.model(4, k, 0)) : null;
                case "price": return told(x.way(k, 0));
                default: return told(x.task(k, 0));
            }
        }

        int room(int p) {
            int units = 0;
            for (int s = x.model(2, p, 1); s <= x.model(2, p, 2); s++) {
                for (int k = x.model(2, p, 3); k <= x.model(2, p, 4); k++) {
                    int low = Math.max(x.model(2, p, 5), x.model(1, s, k < 8 ? 7 - k : k - 8));
                    int high = Math.min(x.model(2, p, 6), x.model(1, s, 8));
                    units += Math.max(0, high - low);
                }
            }
            return units;
        }

        static BigInteger[] table(int[] points, BigInteger[] v) {
            Integer order = order(v, whole(points[0]));
            if (order == null) {
                return null;
            }
            if (order <= 0) {
                return whole(points[1]);
            }
            for (int i = 0; i < points.length; i += 2) {
                order = order(whole(points[i]), v);
                if (order == null) {
                    return null;
                }
                if (order == 0) {
                    return whole(points[i + 1]);
                }
                if (order > 0) {
                    BigInteger[] got = act("-", v, whole(points[i - 2]));
                    got = act("*", got, act("-", whole(points[i + 1]), whole(points[i - 1])));
                    got = act("/", got, act("-", whole(points[i]), whole(points[i - 2])));
                    return act("+", got, whole(points[i - 1]));
                }
            }
            return whole(points[points.length - 1]);
        }
    }
}
