import java.util.ArrayList;
import java.util.List;
import java.util.function.Consumer;
import java.util.function.Function;
import java.util.function.Supplier;
import java.util.function.ToLongFunction;

/**
 * Every refusal that the promises name, and, where a call could be refused in two ways, the one that its words
 * name first; no refused call, and none that just asks, changes anything. Whether it did is read off two objects
 * laid alike, of which one alone was called: both must answer alike to all that can be asked, undone, laid back
 * and loaded. Each object is called less than 512 times.
 */
public final class RefusalsTest extends Checks {
    private static int held = 0;

    private final Supplier<LaneLock> laying;
    private final List<Function<LaneLock, String>> readings = new ArrayList<>();
    private final List<String> due = new ArrayList<>();

    /** All that can be told of the object that laying makes, in some parts. */
    private RefusalsTest(Supplier<LaneLock> laying) {
        this.laying = laying;
        readings.add(RefusalsTest::asked);
        readings.add(RefusalsTest::told);
        readings.add(RefusalsTest::thought);
        readings.add(RefusalsTest::undone);
        readings.add(RefusalsTest::laidBack);
        readings.add(RefusalsTest::barsAndCaps);
        readings.add(x -> loaded(x, 0, 1));
        readings.add(x -> loaded(x, 2, 3));
        for (Function<LaneLock, String> reading : readings) {
            due.add(reading.apply(laying.get()));
        }
    }

    // ---- what can be read of an object

    private static String asked(LaneLock x) {
        StringBuilder all = new StringBuilder();
        for (int day = 0; day < 200; day++) {
            all.append(x.may(day)).append(' ');
        }
        for (int i = -1; i < 11; i++) {
            all.append(x.spent(i)).append(' ').append(x.lane(0, i)).append(' ').append(x.lane(1, i)).append('\n');
        }
        return all.toString();
    }

    private static String told(LaneLock x) {
        StringBuilder all = new StringBuilder();
        for (int ship = 0; ship < 10; ship++) {
            for (int what = 0; what < 10; what++) {
                all.append(x.told(ship, what)).append(' ');
            }
            all.append(x.waits(ship)).append('\n');
        }
        return all.toString();
    }

    private static String thought(LaneLock x) {
        StringBuilder all = new StringBuilder();
        for (int i = 0; i < 10; i++) {
            all.append(x.count(i)).append(' ').append(x.line(i)).append(' ');
            all.append(x.next(i, 0)).append(' ').append(x.next(i, 1)).append(' ').append(x.next(i, 2)).append('\n');
        }
        for (int what = 0; what < 4; what++) {
            all.append(x.plan(what)).append(' ').append(x.day(what)).append(' ').append(x.freely(what)).append(' ');
            for (int sheet = 0; sheet < 4; sheet++) {
                all.append(x.tells(sheet, 3, what)).append(' ').append(x.tells(sheet, 7, what)).append('\n');
            }
        }
        return all.append(x.drought()).append(' ').append(x.water()).toString();
    }

    private static void brief(LaneLock x, StringBuilder all) {
        for (int i = 0; i < 10; i++) {
            all.append(x.told(i, 6)).append(x.told(i, 9)).append(x.lane(0, i)).append(x.lane(1, i)).append(' ');
        }
        all.append(x.count(8)).append(' ').append(x.spent(NONE)).append(' ').append(x.plan(2)).append('\n');
    }

    private static String undone(LaneLock x) {
        StringBuilder all = new StringBuilder();
        for (int k = 0; k < 8; k++) {
            all.append(x.undo()).append(' ');
            brief(x, all);
        }
        return all.toString();
    }

    private static String laidBack(LaneLock x) {
        StringBuilder all = new StringBuilder().append(x.back()).append(' ');
        brief(x, all);
        return all.append(told(x)).append(thought(x)).toString();
    }

    private static String barsAndCaps(LaneLock x) {
        StringBuilder all = new StringBuilder();
        for (int place = 0; place < 20; place++) {
            all.append(x.bar(0, place, false)).append(x.bar(1, place, false)).append(x.bar(2, place, false));
        }
        for (int day = 0; day < 100; day++) {
            all.append(' ').append(x.cap(day, NONE));
        }
        for (int sheet = 0; sheet < 4; sheet++) {
            all.append(' ').append(x.put(sheet, 0, 0)).append(x.put(sheet, 4, 0)).append(x.put(sheet, 5, 0));
            all.append(x.put(sheet, 7, 0)).append(x.put(sheet, 8, 0)).append(x.load(sheet, 0, 0, 0));
        }
        return all.toString();
    }

    /** Eight items of a sheet, one by one, each as the load and minute of a ship that comes by another sheet. */
    private static String loaded(LaneLock x, int sheet, int other) {
        StringBuilder all = new StringBuilder();
        int[] sorts = {x.load(sheet, 1, 0, 0) == 0 ? 1 : 0, x.load(other, 1, 0, 0) == 0 ? 1 : 0};
        int spare = (sheet + 2) % 4;
        x.image();
        int ships = x.count(5);
        for (int k = 0; k < 16; k++) {
            int read = k < 8 ? sheet : other;
            x.sheet(spare, sorts[k / 8], 5);
            x.put(spare, 2, 1);
            all.append(x.copy(read, k % 8, spare, 4, 1)).append(' ');
            all.append(x.load(spare, sorts[k / 8], 0, 1)).append(' ');
            all.append(x.told(ships, 3)).append(' ').append(x.told(ships, 4)).append('\n');
            x.back();
        }
        return all.toString();
    }

    // ---- the calls

    private static String numbers(int... of) {
        StringBuilder all = new StringBuilder();
        for (int one : of) {
            all.append(' ').append(one);
        }
        return all.toString();
    }

    private void refused(String name, long want, ToLongFunction<LaneLock> call) {
        LaneLock once = laying.get();
        due(name, call.applyAsLong(once), want);
        due(name + ", again", call.applyAsLong(once), want);
        unchanged(name, x -> call.applyAsLong(x));
    }

    private void unchanged(String name, Consumer<LaneLock> call) {
        held++;
        for (int part = 0; part < readings.size(); part++) {
            LaneLock x = laying.get();
            call.accept(x);
            if (!readings.get(part).apply(x).equals(due.get(part))) {
                fault(name + ": it changed something, by reading " + part);
            }
        }
    }

    private void ship(int want, int... a) {
        refused("ship" + numbers(a), want, x -> x.ship(a[0], a[1], a[2], a[3], a[4]));
    }

    private void set(int want, int what, int v) {
        refused("set" + numbers(what, v), want, x -> x.set(what, v));
    }

    private void bar(int want, int row, int place) {
        refused("bar true" + numbers(row, place), want, x -> x.bar(row, place, true));
        refused("bar false" + numbers(row, place), want, x -> x.bar(row, place, false));
    }

    private void cap(int want, int day, int v) {
        refused("cap" + numbers(day, v), want, x -> x.cap(day, v));
    }

    private void taken(int want, int ship, int k) {
        refused("taken" + numbers(ship, k), want, x -> x.taken(ship, k));
    }

    private void told(int want, int ship, int what) {
        refused("told" + numbers(ship, what), want, x -> x.told(ship, what));
    }

    private void lane(int want, int lane, int i) {
        refused("lane" + numbers(lane, i), want, x -> x.lane(lane, i));
    }

    private void next(int want, int k, int what) {
        refused("next" + numbers(k, what), want, x -> x.next(k, what));
    }

    private void tells(int want, int sheet, int ship, int what) {
        refused("tells" + numbers(sheet, ship, what), want, x -> x.tells(sheet, ship, what));
    }

    private void film(int want, int sheet, int n) {
        refused("film" + numbers(sheet, n), want, x -> x.film(sheet, n));
    }

    private void sheet(int want, int sheet, int sort, int n) {
        refused("sheet" + numbers(sheet, sort, n), want, x -> x.sheet(sheet, sort, n));
    }

    private void put(int want, int sheet, int i, int v) {
        refused("put" + numbers(sheet, i, v), want, x -> x.put(sheet, i, v));
    }

    private void copy(int want, int... a) {
        refused("copy" + numbers(a), want, x -> x.copy(a[0], a[1], a[2], a[3], a[4]));
    }

    private void load(int want, int sheet, int sort, int from, int n) {
        refused("load" + numbers(sheet, sort, from, n), want, x -> x.load(sheet, sort, from, n));
    }

    /** Calls of one number. */
    private void one(String name, long want, Asking call, int... numbers) {
        for (int number : numbers) {
            refused(name + " " + number, want, x -> call.on(x, number));
        }
    }

    private interface Asking {
        long on(LaneLock x, int number);
    }

    // ---- objects laid

    /**
     * Eight ships: 0 and 1 are gone by filling 0, 2 left, 5 went by filling 1, the others wait; three deeds, an
     * image from between them; sheet 0 is of 8 bytes, 1 of 8 ints, 2 is missing, 3 of 9 ints.
     */
    private static LaneLock laid() {
        LaneLock x = new LaneLock();
        x.set(0, 8);
        x.set(3, 7);
        x.set(4, 2);
        x.bar(0, 1, true);
        x.bar(2, 19, true);
        x.cap(0, 70);
        x.cap(99, 60);
        x.ship(0, 0, 4, 2, 10000);
        x.ship(1, 1, 3, 5, 20003);
        x.ship(0, 4, 9, 9, 999999);
        x.ship(1, 5, 4, 1, 3012);
        x.ship(0, 2, 5, 3, 7001);
        x.ship(0, 3, 2, 0, 4);
        x.ship(1, 0, 3, 7, 11005);
        x.ship(0, 0, 2, 4, 0);
        x.fill();
        x.image();
        x.leave(2);
        x.leave(4);
        x.fill();
        x.sheet(0, 0, 8);
        x.sheet(1, 1, 8);
        x.sheet(3, 1, 9);
        x.put(3, 8, 908);
        for (int i = 0; i < 8; i++) {
            x.put(0, i, 2 + i);
            x.put(1, i, 3 * i);
            x.put(3, i, 900 + i);
        }
        return x;
    }

    /** Deeds, but no image. */
    private static LaneLock unkept() {
        LaneLock x = new LaneLock();
        x.set(4, 3);
        x.ship(0, 0, 9, 1, 2003);
        x.ship(1, 1, 8, 2, 3004);
        x.ship(1, 2, 5, 3, 4005);
        x.ship(0, 3, 6, 4, 5006);
        x.fill();
        x.leave(2);
        return x;
    }

    /** An image, but no deeds, though one is gone and one left. */
    private static LaneLock undeeded() {
        LaneLock x = unkept();
        x.image();
        x.back();
        return x;
    }

    /** Ten ships, none of which can ever go in. */
    private static LaneLock stuck() {
        LaneLock x = new LaneLock();
        x.set(0, 3);
        for (int ship = 0; ship < 10; ship++) {
            x.ship(ship % 2, 0, 4 + ship % 5, ship, 1000 * ship + 7);
        }
        x.leave(3);
        x.image();
        x.leave(6);
        return x;
    }

    // ---- what is refused

    private void ships() {
        for (int far : new int[] {MIN, -1, 2, MAX}) {
            ship(BAD, far, 0, 1, 0, 0);
            lane(BAD, far, 0);
            lane(BAD, far, -1);
            lane(BAD, far, MAX);
        }
        for (int far : new int[] {MIN, -1, 6, MAX}) {
            ship(BAD, 0, far, 1, 0, 0);
            taken(BAD, 0, far);
            taken(BAD, 8, far);
        }
        for (int far : new int[] {MIN, -1, 0, 10, MAX}) {
            ship(BAD, 0, 0, far, 0, 0);
        }
        for (int far : new int[] {MIN, -1, 10, MAX}) {
            ship(BAD, 1, 0, 1, far, 0);
            told(BAD, 0, far);
            told(BAD, far, 0);
            told(BAD, far, far);
            taken(BAD, far, 0);
        }
        for (int far : new int[] {MIN, -1001, -1000, -1, 1000000, MAX}) {
            ship(BAD, 1, 0, 1, 0, far);
        }
        one("count", BAD, LaneLock::count, MIN, -1, 10, MAX);
    }

    private void chamber() {
        int[] least = {1, 1, 1, 1, 0}, most = {20, 3, 99, 60, 4};
        for (int what = 0; what < 5; what++) {
            for (int far : new int[] {MIN, -1, least[what] - 1, most[what] + 1, MAX}) {
                set(BAD, what, far);
            }
        }
        for (int far : new int[] {MIN, -1, 5, MAX}) {
            set(BAD, far, 1);
        }
        for (int far : new int[] {MIN, -1, 3, MAX}) {
            bar(BAD, far, 0);
        }
        for (int far : new int[] {MIN, -1, 20, 32, MAX}) {
            bar(BAD, 0, far);
        }
        for (int far : new int[] {MIN, -1, 100, 199, MAX}) {
            cap(BAD, far, 1);
            cap(BAD, far, NONE);
        }
        for (int far : new int[] {MIN, -2, 100000, MAX}) {
            cap(BAD, 0, far);
            cap(BAD, 99, far);
        }
        one("may", BAD, LaneLock::may, MIN, -1, 200, MAX);
    }

    private void thoughts() {
        for (int far : new int[] {MIN, -1, 3, MAX}) {
            next(BAD, 0, far);
            next(BAD, 9, far);
        }
        for (int what = 0; what < 3; what++) {
            next(BAD, -1, what);
            next(BAD, MIN, what);
            next(NONE, 10, what);
            next(NONE, MAX, what);
        }
        one("plan", BAD, LaneLock::plan, MIN, -1, 3, MAX);
        one("day", BAD, LaneLock::day, MIN, -1, 3, MAX);
        one("freely", BAD, LaneLock::freely, MIN, -1, 4, MAX);
        one("line", BAD, LaneLock::line, MIN, -1);
        one("line", NONE, LaneLock::line, 10, MAX);
        one("spent", NO, LaneLock::spent, MIN, -2, 10, 39, 40, MAX);
        one("leave", BAD, LaneLock::leave, MIN, -1, 10, MAX);
        one("waits", BAD, LaneLock::waits, MIN, -1, 10, MAX);
    }

    /** By what there is in laid(): who is gone or left, which sheets are missing, of which sort, how long. */
    private void states() {
        one("leave", STATE, LaneLock::leave, 0, 1, 2, 4, 5);
        one("waits", STATE, LaneLock::waits, 0, 1, 2, 4, 5);
        one("leave", BAD, LaneLock::leave, 8);
        one("waits", BAD, LaneLock::waits, 8);
        one("spent", NO, LaneLock::spent, 2);
        told(BAD, 8, 0);
        taken(BAD, 8, 0);
        int[][] unlike = {{0, 1}, {0, 2}, {0, 3}, {0, 4}, {0, 5}, {1, 2}, {1, 3}, {1, 4}, {1, 5}, {2, 1}, {2, 2}, {2, 5},
            {3, 2}, {3, 3}, {3, 4}, {4, 3}, {4, 4}, {4, 5}, {5, 1}, {5, 2}, {5, 4}, {5, 5}};
        for (int[] pair : unlike) {
            taken(UNLIKE, pair[0], pair[1]);
        }
        for (int lane = 0; lane < 2; lane++) {
            lane(NONE, lane, -1);
            lane(NONE, lane, MIN);
            lane(NONE, lane, 2);
            lane(NONE, lane, MAX);
        }
    }

    private void sheets() {
        for (int far : new int[] {MIN, -1, 4, MAX}) {
            for (int what = 0; what < 4; what++) {
                tells(BAD, far, 3, what);
            }
            tells(BAD, far, 3, 4);
            tells(BAD, 0, 3, far);
            tells(BAD, 2, 0, far);
            film(BAD, far, 3);
            film(BAD, far, 9);
            sheet(BAD, far, 0, 3);
            sheet(BAD, far, -1, 3);
            sheet(BAD, far, 0, -1);
            sheet(BAD, far, 0, 41);
            put(BAD, far, 0, 1);
            put(BAD, far, -1, 1);
            copy(BAD, far, 0, 1, 0, 1);
            copy(BAD, 1, 0, far, 0, 1);
            copy(BAD, 2, 0, far, 0, 1);
            copy(BAD, far, -1, 2, 0, -1);
            load(BAD, far, 1, 0, 1);
            load(BAD, far, 0, -1, 0);
        }
        for (int far : new int[] {MIN, -1, 9, MAX}) {
            film(BAD, 0, far);
            film(BAD, 2, far);
        }
        for (int far : new int[] {MIN, -2, 2, MAX}) {
            sheet(BAD, 1, far, 3);
            sheet(BAD, 1, far, -1);
            sheet(BAD, 1, far, 41);
        }
        for (int sort = 0; sort < 2; sort++) {
            sheet(BAD, 1, sort, 41);
            sheet(BAD, 1, sort, MAX);
            sheet(BELOW, 1, sort, -1);
            sheet(BELOW, 1, sort, MIN);
        }
    }

    private void tellings() {
        for (int what = 2; what < 4; what++) {
            for (int far : new int[] {MIN, -1, 8, 10, MAX}) {
                tells(BAD, 0, far, what);
                tells(BAD, 2, far, what);
                tells(BAD, 3, far, what);
            }
            for (int sheet = 0; sheet < 4; sheet++) {
                tells(STATE, sheet, 0, what);
                tells(STATE, sheet, 2, what);
                tells(STATE, sheet, 5, what);
            }
        }
        for (int what = 0; what < 4; what++) {
            tells(MISSING, 2, 3, what);
            tells(BAD, 3, 3, what);
        }
        for (int what = 0; what < 2; what++) {
            tells(MISSING, 2, -1, what);
            tells(BAD, 3, 0, what);
        }
    }

    private void rows() {
        for (int far : new int[] {MIN, -1, 8, 40, MAX}) {
            put(OUTSIDE, 0, far, 1);
            put(OUTSIDE, 1, far, 1);
            put(MISSING, 2, far, 1);
            copy(OUTSIDE, 1, far, 3, 0, 1);
            copy(OUTSIDE, 3, 0, 1, far, 1);
            copy(MISSING, 2, far, 1, 0, 1);
            copy(MISSING, 1, 0, 2, far, 1);
            copy(UNLIKE, 0, far, 1, 0, 1);
            copy(UNLIKE, 1, 0, 0, far, 1);
        }
        put(MISSING, 2, 0, 1);
        for (int far : new int[] {MIN, -1, 9, MAX}) {
            copy(OUTSIDE, 1, 0, 3, 0, far);
            copy(OUTSIDE, 0, 0, 0, 0, far);
            copy(MISSING, 2, 0, 2, 0, far);
            copy(UNLIKE, 0, 0, 1, 0, far);
        }
        copy(OUTSIDE, 1, 1, 3, 0, 8);
        copy(OUTSIDE, 1, 0, 3, 2, 8);
        copy(OUTSIDE, 1, 9, 3, 0, 0);
        copy(OUTSIDE, 1, 0, 3, 10, 0);
        copy(OUTSIDE, 1, -1, 3, 0, 0);
        copy(OUTSIDE, 1, 0, 3, -1, 0);
        copy(OUTSIDE, 1, 1, 3, 0, MAX);
        copy(OUTSIDE, 1, MAX, 3, MAX, MAX);
        copy(MISSING, 2, 0, 0, 0, 0);
        copy(UNLIKE, 0, 0, 1, 0, 0);
        copy(UNLIKE, 0, 0, 1, 0, MAX);
    }

    private void loads() {
        for (int far : new int[] {MIN, -1, 2, MAX}) {
            load(BAD, 1, far, 0, 1);
            load(BAD, 2, far, 0, 0);
            load(BAD, 1, far, -1, 0);
        }
        for (int far : new int[] {MIN, -1, 11, MAX}) {
            load(BAD, 1, 1, 0, far);
            load(BAD, 1, 0, 0, far);
            load(BAD, 2, 1, 0, far);
        }
        for (int n : new int[] {0, 1, 10}) {
            load(UNLIKE, 0, 1, 0, n);
            load(UNLIKE, 1, 0, 0, n);
            load(UNLIKE, 1, 0, -1, n);
            load(MISSING, 2, 0, 0, n);
            load(MISSING, 2, 1, 0, n);
            load(MISSING, 2, 1, MAX, n);
        }
        for (int far : new int[] {MIN, MIN + 5, -5, -1, 4, 8, 40, MAX - 4, MAX}) {
            load(OUTSIDE, 1, 1, far, 1);
            load(OUTSIDE, 0, 0, far, 10);
        }
        // items that are no ship leave it out, and a place behind them is outside
        load(OUTSIDE, 3, 1, 0, 2);
    }

    /** Calls that just ask change nothing either, whatever they try in thought. */
    private void asks() {
        unchanged("all that is asked", x -> asked(x));
        unchanged("all that is told", x -> told(x));
        unchanged("all that is thought", x -> thought(x));
        unchanged("taken", x -> x.taken(4, 1));
        unchanged("none of a sheet", x -> x.copy(1, 8, 3, 9, 0));
        unchanged("none of a load", x -> x.load(1, 1, MAX, 0));
        unchanged("a load of none that come", x -> x.load(3, 1, 0, 1));
        unchanged("a bar as it is", x -> x.bar(0, 1, true));
        unchanged("a cap as it is", x -> x.cap(0, 70));
        unchanged("no cap as there is none", x -> x.cap(50, NONE));
    }

    private void ofNobody() {
        refused("fill, as nobody would go in", STATE, LaneLock::fill);
        refused("water of nobody", NO, LaneLock::water);
        refused("drought of none", NONE, LaneLock::drought);
        refused("day of none", NONE, x -> x.day(2));
        next(NONE, 0, 0);
        one("freely", NONE, LaneLock::freely, 0, 1, 2, 3);
        one("waits", NONE, LaneLock::waits, 0, 9);
        one("waits", STATE, LaneLock::waits, 3, 6);
        one("leave", STATE, LaneLock::leave, 3, 6);
        one("line", NONE, LaneLock::line, 0);
        one("spent", NO, LaneLock::spent, 0, 1);
        ship(FULL, 0, 0, 1, 0, 0);
        ship(FULL, 1, 5, 9, 9, 999999);
        ship(BAD, 2, 0, 1, 0, 0);
        ship(BAD, 0, 6, 1, 0, 0);
        ship(BAD, 0, 0, 0, 0, 0);
        ship(BAD, 0, 0, 1, 10, 0);
        ship(BAD, 0, 0, 1, 0, -1);
    }

    private void ofNothing() {
        refused("undo", STATE, LaneLock::undo);
        refused("back", STATE, LaneLock::back);
        refused("fill", STATE, LaneLock::fill);
        refused("water", NO, LaneLock::water);
        for (int number = 0; number < 4; number++) {
            told(BAD, number, 0);
            taken(BAD, number, 0);
            one("leave", BAD, LaneLock::leave, number);
            one("waits", BAD, LaneLock::waits, number);
            put(MISSING, number, 0, 1);
            copy(MISSING, number, 0, number, 0, 0);
            load(MISSING, number, 0, 0, 0);
            tells(MISSING, number, 0, 0);
            tells(MISSING, number, 0, 1);
            tells(BAD, number, 0, 2);
            tells(BAD, number, 0, 3);
        }
    }

    public static void main(String[] args) {
        RefusalsTest of = new RefusalsTest(RefusalsTest::laid);
        of.ships();
        of.chamber();
        of.thoughts();
        of.states();
        of.sheets();
        of.tellings();
        of.rows();
        of.loads();
        of.asks();
        RefusalsTest ofStuck = new RefusalsTest(RefusalsTest::stuck);
        ofStuck.thoughts();
        ofStuck.ofNobody();
        new RefusalsTest(LaneLock::new).ofNothing();
        new RefusalsTest(RefusalsTest::unkept).refused("back to no image", STATE, LaneLock::back);
        new RefusalsTest(RefusalsTest::undeeded).refused("undo of no deed", STATE, LaneLock::undo);
        end(held + " refusals and questions");
    }
}
