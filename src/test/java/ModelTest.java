import java.util.Arrays;

/** Many runs of calls, the same for ever, on LaneLock and on the Model: both must answer alike. */
public final class ModelTest {
    private static final int RUNS = 1200, CALLS = 400;
    private static final int[] WILD = {Integer.MIN_VALUE, Integer.MIN_VALUE + 1, -100, -15, -2, -1, 0, 1, 2, 3, 4, 5, 6,
        9, 10, 11, 20, 21, 39, 40, 41, 99, 100, 199, 200, 999, 1000, 99999, 100000, 999999, 1000000,
        Integer.MAX_VALUE - 4, Integer.MAX_VALUE};
    private static final int[] TURN = {0, 1, 2, 3, 4, 5, 6, 7, 8, 9, 10, 10, 10, 11, 12, 13, 14, 14, 15, 15, 16, 16,
        17, 17, 18, 18, 19, 20, 21, 21, 22, 22, 22, 23, 24, 25, 26, 27, 27, 27, 28, 29};

    private long seed;
    private int wildness;
    private LaneLock real;
    private Model model;

    /** A number from 0 on, below n: a plain row of numbers, so that each run can be had again. */
    private int any(int n) {
        seed = seed * 6364136223846793005L + 1442695040888963407L;
        return (int) Math.floorMod(seed >>> 33, (long) n);
    }

    private int from(int least, int most) {
        return any(wildness) == 0 ? WILD[any(WILD.length)] : least + any(most - least + 1);
    }

    private int loadAndComes(int spread) {
        return any(20) == 0 ? from(0, 999999) : 1000 * any(any(3) == 0 ? 1000 : 30) + any(spread);
    }

    private String call(int which, int[] a, boolean is, long[] got) {
        switch (which) {
            case 0: got[0] = real.ship(a[0], a[1], a[2], a[3], a[4]); got[1] = model.ship(a[0], a[1], a[2], a[3], a[4]); return "ship";
            case 1: got[0] = real.set(a[0], a[1]); got[1] = model.set(a[0], a[1]); return "set";
            case 2: got[0] = real.bar(a[0], a[1], is); got[1] = model.bar(a[0], a[1], is); return "bar";
            case 3: got[0] = real.cap(a[0], a[1]); got[1] = model.cap(a[0], a[1]); return "cap";
            case 4: got[0] = real.may(a[0]); got[1] = model.may(a[0]); return "may";
            case 5: got[0] = real.told(a[0], a[1]); got[1] = model.told(a[0], a[1]); return "told";
            case 6: got[0] = real.lane(a[0], a[1]); got[1] = model.lane(a[0], a[1]); return "lane";
            case 7: got[0] = real.count(a[0]); got[1] = model.count(a[0]); return "count";
            case 8: got[0] = real.taken(a[0], a[1]); got[1] = model.taken(a[0], a[1]); return "taken";
            case 9: got[0] = real.fill(); got[1] = model.fill(); return "fill";
            case 10: got[0] = real.next(a[0], a[1]); got[1] = model.next(a[0], a[1]); return "next";
            case 11: got[0] = real.water(); got[1] = model.water(); return "water";
            case 12: got[0] = real.spent(a[0]); got[1] = model.spent(a[0]); return "spent";
            case 13: got[0] = real.leave(a[0]); got[1] = model.leave(a[0]); return "leave";
            case 14: got[0] = real.undo(); got[1] = model.undo(); return "undo";
            case 15: got[0] = real.plan(a[0]); got[1] = model.plan(a[0]); return "plan";
            case 16: got[0] = real.drought(); got[1] = model.drought(); return "drought";
            case 17: got[0] = real.waits(a[0]); got[1] = model.waits(a[0]); return "waits";
            case 18: got[0] = real.line(a[0]); got[1] = model.line(a[0]); return "line";
            case 19: got[0] = real.day(a[0]); got[1] = model.day(a[0]); return "day";
            case 20: got[0] = real.freely(a[0]); got[1] = model.freely(a[0]); return "freely";
            case 21: got[0] = real.tells(a[0], a[1], a[2]); got[1] = model.tells(a[0], a[1], a[2]); return "tells";
            case 22: got[0] = real.film(a[0], a[1]); got[1] = model.film(a[0], a[1]); return "film";
            case 23: got[0] = real.image(); got[1] = model.image(); return "image";
            case 24: got[0] = real.back(); got[1] = model.back(); return "back";
            case 25: got[0] = real.sheet(a[0], a[1], a[2]); got[1] = model.sheet(a[0], a[1], a[2]); return "sheet";
            case 26: got[0] = real.put(a[0], a[1], a[2]); got[1] = model.put(a[0], a[1], a[2]); return "put";
            case 27: got[0] = real.copy(a[0], a[1], a[2], a[3], a[4]); got[1] = model.copy(a[0], a[1], a[2], a[3], a[4]); return "copy";
            case 28: got[0] = real.load(a[0], a[1], a[2], a[3]); got[1] = model.load(a[0], a[1], a[2], a[3]); return "load";
            default: throw new IllegalStateException("no call " + which);
        }
    }

    private int[] arguments(int which, int spread) {
        switch (which) {
            case 0: return new int[] {from(0, 1), from(0, 5), from(1, 9), from(0, 9), loadAndComes(spread)};
            case 1: {
                int what = from(0, 4);
                return new int[] {what, what == 4 ? from(0, 4) : what == 1 ? from(1, 3) : from(1, 20)};
            }
            case 2: return new int[] {from(0, 2), from(0, 19)};
            case 3: return new int[] {any(2) == 0 ? from(0, 8) : from(0, 99), any(3) == 0 ? -1 : from(0, 300)};
            case 4: return new int[] {from(0, 199)};
            case 5: return new int[] {from(0, 9), from(0, 9)};
            case 6: return new int[] {from(0, 1), from(0, 6)};
            case 7: return new int[] {from(0, 9)};
            case 8: return new int[] {from(0, 9), from(0, 5)};
            case 10: return new int[] {from(0, 4), from(0, 2)};
            case 12: return new int[] {from(-1, 6)};
            case 13: case 17: return new int[] {from(0, 9)};
            case 15: case 19: return new int[] {from(0, 2)};
            case 18: return new int[] {from(0, 9)};
            case 20: return new int[] {from(0, 3)};
            case 21: return new int[] {from(0, 3), from(0, 9), from(0, 3)};
            case 22: return new int[] {from(0, 3), from(0, 8)};
            case 25: return new int[] {from(0, 3), from(-1, 1), any(3) == 0 ? from(0, 40) : from(0, 8)};
            case 26: return new int[] {from(0, 3), from(0, 7), any(6) == 0 ? 256 + any(4) : any(6) == 0 ? 120 + any(150) : from(0, 4)};
            case 27: return new int[] {from(0, 3), from(0, 6), from(0, 3), from(0, 6), from(0, 6)};
            case 28: return new int[] {from(0, 3), from(0, 1), from(0, 4), from(0, 3)};
            default: return new int[0];
        }
    }

    /** A row that can be read as ships, so that load comes to something. */
    private void layShips() {
        int sheet = any(4);
        int sort = any(2);
        int n = any(6) * 5 + any(5);
        real.sheet(sheet, sort, n);
        model.sheet(sheet, sort, n);
        for (int i = 0; i < n; i++) {
            int v = i % 5 == 0 ? any(2) : i % 5 == 1 ? any(6) : i % 5 == 2 ? 1 + any(9) : i % 5 == 3 ? any(10) : any(sort == 0 ? 160 : 30000);
            real.put(sheet, i, v);
            model.put(sheet, i, v);
        }
    }

    private boolean run(int number) {
        seed = 7919L * number + 17;
        any(2);
        wildness = 8 + any(60);
        real = new LaneLock();
        model = new Model();
        int spread = new int[] {3, 30, 200, 1000}[any(4)];
        int ships = any(11);
        StringBuilder told = new StringBuilder();
        for (int c = 0; c < CALLS; c++) {
            int which = c < ships ? 0 : any(200) == 0 ? 28 : TURN[any(TURN.length)];
            if (which > 0 && which < 4 && any(3) == 0) {
                which = 14;
            }
            if (which == 29) {
                layShips();
                which = 28;
            }
            int[] a = arguments(which, spread);
            int[] five = Arrays.copyOf(a, 5);
            long[] got = new long[2];
            boolean is = any(3) > 0;
            String name = call(which, five, is, got);
            told.append(name).append(Arrays.toString(a)).append(which == 2 ? is : "").append(" = ").append(got[0]).append('\n');
            if (got[0] != got[1]) {
                System.out.println("run " + number + ", the model answers " + got[1] + " to the last of\n" + told);
                return false;
            }
        }
        return true;
    }

    public static void main(String[] args) {
        int wrong = 0;
        for (int number = 0; number < RUNS && wrong < 3; number++) {
            wrong += new ModelTest().run(number) ? 0 : 1;
        }
        System.out.println(wrong == 0 ? "as the model in " + RUNS + " runs" : wrong + " runs unlike the model");
        if (wrong != 0) {
            System.exit(1);
        }
    }
}
