import java.util.function.IntConsumer;

/** What all tests of the project use: answers compared, and the yard filled in few words. */
final class Check {
    private static int wrong = 0;
    private static String sentence = "";

    private Check() {
    }

    /** The sentence of the document that the next answers test. */
    static void says(String words) {
        sentence = "\"" + words + "\": ";
    }

    static void due(String call, long got, long want) {
        if (got != want) {
            wrong++;
            if (wrong <= 50) {
                System.out.println(sentence + call + " answered " + got + ", due is " + want);
            }
        }
    }

    static void end() {
        System.out.println(wrong == 0 ? "all answers are as due" : wrong + " answers are not as due");
        System.exit(wrong == 0 ? 0 : 1);
    }

    /** Writes the fields of a row from field 0 on. */
    static void row(Yard yard, int table, int row, int... fields) {
        for (int field = 0; field < fields.length; field++) {
            due("put(0, " + table + ", " + row + ", " + field + ", " + fields[field] + ")",
                    yard.put(0, table, row, field, fields[field]), 1);
        }
    }

    /** Writes the fields of a row of a new object, but for those that are 0 already. */
    static void newRow(Yard yard, int table, int row, int... fields) {
        for (int field = 0; field < fields.length; field++) {
            if (fields[field] != 0) {
                due("put(0, " + table + ", " + row + ", " + field + ", " + fields[field] + ")",
                        yard.put(0, table, row, field, fields[field]), 1);
            }
        }
    }

    /** Puts a text on the empty tape. */
    static void tape(Yard yard, String text) {
        int[] five = new int[5];
        int fed = 0;
        while (fed < text.length()) {
            for (int i = 0; i < 5; i++) {
                int v = 0;
                for (int j = 0; j < 4; j++) {
                    v = v << 8 | (fed < text.length() ? text.charAt(fed) & 255 : 32);
                    fed++;
                }
                five[i] = v;
            }
            yard.feed(five[0], five[1], five[2], five[3], five[4]);
        }
        yard.cut(fed - text.length());
        due("the tape's bytes", yard.told(2), text.length());
    }

    /** Commits a text of rules as person 0: what commit() answers. */
    static int text(Yard yard, String text) {
        tape(yard, text);
        yard.open(0);
        due("write(0)", yard.write(0), text.length());
        return yard.commit(0);
    }

    /** Calls with numbers at and round the limits of all that may be asked for. */
    static void wild(IntConsumer call) {
        int[] numbers = {Integer.MIN_VALUE, -2049, -2048, -1, 0, 1, 2, 5, 6, 7, 8, 15, 16, 17, 64, 2048, 2049, 65535, 65536,
            Integer.MAX_VALUE};
        for (int n : numbers) {
            call.accept(n);
        }
    }
}
