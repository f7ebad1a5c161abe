/** The constants, and what a new object answers. */
public final class ConstantsTest {
    private static int wrong = 0;

    private static void due(String call, long got, long want) {
        if (got != want) {
            wrong++;
            System.out.println(call + " answered " + got + ", due is " + want);
        }
    }

    public static void main(String[] args) {
        due("BAD", ShipYard.BAD, -1);
        due("NO", ShipYard.NO, -2);
        due("DOWN", ShipYard.DOWN, -3);
        due("FULL", ShipYard.FULL, -4);
        due("NONE", ShipYard.NONE, Long.MIN_VALUE);
        ShipYard x = new ShipYard();
        for (int what = 0; what <= 5; what++) {
            due("told(" + what + ")", x.told(what), 0);
        }
        due("told(6)", x.told(6), ShipYard.NO);
        due("log(0)", x.log(0), ShipYard.BAD);
        System.exit(wrong == 0 ? 0 : 1);
    }
}
