/** What the tests share: the constants, what is due and what was answered, objects and sheets laid. */
abstract class Checks {
    static final int NONE = -1, BAD = -2, STATE = -3, FULL = -4;
    static final int MISSING = -11, OUTSIDE = -12, UNLIKE = -13, BELOW = -14;
    static final long NO = Long.MIN_VALUE;
    static final int SHIP = 0, BARGE = 1, PAIR = 2, FERRY = 3, PILOT = 4, TANKER = 5;
    static final int BYTES = 0, INTS = 1;
    static final int MIN = Integer.MIN_VALUE, MAX = Integer.MAX_VALUE;

    private static int wrong = 0;
    /** What the checks to come are about, told with each that fails. */
    static String about = "";

    static void fault(String what) {
        wrong++;
        System.out.println(about + what);
    }

    static void due(String what, long got, long want) {
        if (got != want) {
            fault(what + ": answered " + got + ", due is " + want);
        }
    }

    static void dues(String what, int want, int... got) {
        for (int i = 0; i < got.length; i++) {
            due(what + " [" + i + "]", got[i], want);
        }
    }

    static LaneLock chamber(int lon, int rows, int fall) {
        LaneLock x = new LaneLock();
        x.set(0, lon);
        x.set(1, rows);
        x.set(2, fall);
        return x;
    }

    /** Ships without rank or load that come at minute 0, of these lengths. */
    static void plain(LaneLock x, int lane, int... lengths) {
        for (int length : lengths) {
            x.ship(lane, SHIP, length, 0, 0);
        }
    }

    static void row(LaneLock x, int sheet, int sort, int... items) {
        x.sheet(sheet, sort, items.length);
        for (int i = 0; i < items.length; i++) {
            x.put(sheet, i, items[i]);
        }
    }

    /** Ends the test: with exit code 1, if anything was wrong. */
    static void end(String checks) {
        System.out.println(checks + (wrong == 0 ? " hold" : ": " + wrong + " faults"));
        if (wrong != 0) {
            System.exit(1);
        }
    }
}
