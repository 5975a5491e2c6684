import java.util.ArrayList;
import java.util.Arrays;
import java.util.List;

/**
 * The document once more, as plainly as can be: lists for lanes, a boolean a place, every minute
 * walked through, every free choice tried. ModelTest holds LaneLock against it.
 */
final class Model {
    static final int NONE = -1, BAD = -2, STATE = -3, FULL = -4;
    static final long NO = Long.MIN_VALUE;

    static final class Ship {
        int number, kind, length, first, load, comes, lane, state, by = NONE;

        Ship twin() {
            Ship s = new Ship();
            s.number = number; s.kind = kind; s.length = length; s.first = first; s.load = load;
            s.comes = comes; s.lane = lane; s.state = state; s.by = by;
            return s;
        }

        int span() {
            return spanOf(kind);
        }

        private int spanOf(int k) {
            if (k == 0) return length;
            if (k == 1) return spanOf(0) + 1;
            if (k == 2) return 2 * spanOf(1);
            if (k == 3) return spanOf(0);
            if (k == 4) return spanOf(3) - 1 < 1 ? 1 : spanOf(3) - 1;
            return spanOf(1);
        }

        int rank() {
            return rankOf(kind);
        }

        private int rankOf(int k) {
            if (k == 0) return first;
            if (k == 1) return rankOf(0);
            if (k == 2) return rankOf(1);
            if (k == 3) return rankOf(0) + 10;
            if (k == 4) return 2 * rankOf(3);
            return rankOf(1);
        }

        boolean is(int k) {
            if (k == kind) return true;
            switch (kind) {
                case 1: return k == 0;
                case 2: return k == 1 || k == 0;
                case 3: return k == 0;
                case 4: return k == 3 || k == 0;
                case 5: return k == 1 || k == 0;
                default: return false;
            }
        }
    }

    /** All that an image keeps. */
    static final class World {
        List<Ship> ships = new ArrayList<>();
        List<List<Integer>> lanes = new ArrayList<>(List.of(new ArrayList<>(), new ArrayList<>()));
        int lon = 10, rows = 2, fall = 5, minutes = 10, rule = 0;
        boolean[][] barred = new boolean[3][20];
        Integer[] caps = new Integer[100];
        List<Integer> ledger = new ArrayList<>();

        World twin() {
            World w = new World();
            for (Ship s : ships) w.ships.add(s.twin());
            w.lanes = twinLanes();
            w.lon = lon; w.rows = rows; w.fall = fall; w.minutes = minutes; w.rule = rule;
            for (int r = 0; r < 3; r++) w.barred[r] = barred[r].clone();
            w.caps = caps.clone();
            w.ledger = new ArrayList<>(ledger);
            return w;
        }

        List<List<Integer>> twinLanes() {
            return new ArrayList<>(List.of(new ArrayList<>(lanes.get(0)), new ArrayList<>(lanes.get(1))));
        }
    }

    static final class Deed {
        List<List<Integer>> lanes;
        List<Integer> who = new ArrayList<>();
        boolean filled;
    }

    static final class Went {
        List<int[]> in = new ArrayList<>();  // ship, row, place
        boolean[][] busy;
        int loads;
    }

    World w = new World();
    World img = null;
    List<Deed> deeds = new ArrayList<>();
    int[][] sheets = new int[4][];
    int[] sorts = {-1, -1, -1, -1};

    // ---- one filling

    Went empty() {
        Went went = new Went();
        went.busy = new boolean[3][];
        for (int r = 0; r < 3; r++) went.busy[r] = w.barred[r].clone();
        return went;
    }

    boolean goesIn(Went went, int number) {
        Ship s = w.ships.get(number);
        for (int[] other : went.in) if (w.ships.get(other[0]).kind == 5) return false;
        if (s.kind == 5 && !went.in.isEmpty()) return false;
        for (int r = 0; r < w.rows; r++) {
            for (int p = 0; p < w.lon; p++) {
                int free = 0;
                while (p + free < w.lon && !went.busy[r][p + free]) free++;
                if (free >= s.span()) {
                    for (int q = p; q < p + s.span(); q++) went.busy[r][q] = true;
                    went.in.add(new int[] {number, r, p});
                    went.loads += s.load;
                    return true;
                }
            }
        }
        return false;
    }

    int waterOf(Went went) {
        int all = w.lon * w.rows * w.fall - went.loads;
        return all < 0 ? 0 : all;
    }

    /** Takes those that go in from the lanes that it is given. */
    Went filling(List<List<Integer>> lanes) {
        Went went = empty();
        boolean[] shut = new boolean[2];
        int latest = -1;
        while (true) {
            boolean open0 = !shut[0] && !lanes.get(0).isEmpty();
            boolean open1 = !shut[1] && !lanes.get(1).isEmpty();
            if (!open0 && !open1) return went;
            int lane;
            if (open0 && open1) {
                Ship a = w.ships.get(lanes.get(0).get(0));
                Ship b = w.ships.get(lanes.get(1).get(0));
                int mine, others;
                if (w.rule == 0) { mine = latest == 0 ? 1 : 0; others = 0; }
                else if (w.rule == 1) { mine = -a.rank(); others = -b.rank(); }
                else if (w.rule == 2) { mine = a.span(); others = b.span(); }
                else if (w.rule == 3) { mine = a.comes; others = b.comes; }
                else { mine = -a.load; others = -b.load; }
                lane = mine <= others ? 0 : 1;
            } else {
                lane = open0 ? 0 : 1;
            }
            int head = lanes.get(lane).get(0);
            if (goesIn(went, head)) {
                lanes.get(lane).remove(0);
                latest = lane;
            } else {
                shut[lane] = true;
            }
        }
    }

    // ---- calls

    int ship(int lane, int kind, int length, int first, int lc) {
        if (lane < 0 || lane > 1 || kind < 0 || kind > 5 || length < 1 || length > 9) return BAD;
        if (first < 0 || first > 9 || lc < 0 || lc / 1000 > 999) return BAD;
        if (w.ships.size() == 10) return FULL;
        Ship s = new Ship();
        s.number = w.ships.size();
        s.kind = kind; s.length = length; s.first = first; s.load = lc / 1000; s.comes = lc % 1000; s.lane = lane;
        w.ships.add(s);
        w.lanes.get(lane).add(s.number);
        deeds.clear();
        return s.number;
    }

    int set(int what, int v) {
        int was;
        switch (what) {
            case 0: if (v < 1 || v > 20) return BAD; was = w.lon; w.lon = v; return was;
            case 1: if (v < 1 || v > 3) return BAD; was = w.rows; w.rows = v; return was;
            case 2: if (v < 1 || v > 99) return BAD; was = w.fall; w.fall = v; return was;
            case 3: if (v < 1 || v > 60) return BAD; was = w.minutes; w.minutes = v; return was;
            case 4: if (v < 0 || v > 4) return BAD; was = w.rule; w.rule = v; return was;
            default: return BAD;
        }
    }

    int bar(int row, int place, boolean is) {
        if (row < 0 || row > 2 || place < 0 || place > 19) return BAD;
        boolean was = w.barred[row][place];
        w.barred[row][place] = is;
        return was ? 1 : 0;
    }

    int cap(int day, int v) {
        if (day < 0 || day > 99 || v < -1 || v > 99999) return BAD;
        Integer was = w.caps[day];
        w.caps[day] = v == -1 ? null : (Integer) v;
        return was == null ? NONE : was;
    }

    int may(int day) {
        if (day < 0 || day > 199) return BAD;
        int bound = NONE;
        for (int d = 0; d < 100 && d <= day; d++) if (w.caps[d] != null) bound = w.caps[d];
        return bound;
    }

    boolean no(int ship) {
        return ship < 0 || ship >= w.ships.size();
    }

    int told(int ship, int what) {
        if (no(ship) || what < 0 || what > 9) return BAD;
        Ship s = w.ships.get(ship);
        return new int[] {s.kind, s.length, s.first, s.load, s.comes, s.lane, s.state, s.span(), s.rank(), s.by}[what];
    }

    int lane(int lane, int i) {
        if (lane != 0 && lane != 1) return BAD;
        return i < 0 || i >= w.lanes.get(lane).size() ? NONE : w.lanes.get(lane).get(i);
    }

    int count(int what) {
        int free = 0;
        for (int r = 0; r < w.rows; r++) for (int p = 0; p < w.lon; p++) if (!w.barred[r][p]) free++;
        if (what < 0 || what > 9) return BAD;
        return new int[] {w.lon, w.rows, w.fall, w.minutes, w.rule, w.ships.size(),
            w.lanes.get(0).size() + w.lanes.get(1).size(), w.ledger.size(), deeds.size(), free}[what];
    }

    int taken(int ship, int k) {
        if (no(ship) || k < 0 || k > 5) return BAD;
        return w.ships.get(ship).is(k) ? w.ships.get(ship).length : -13;
    }

    int fill() {
        if (filling(w.twinLanes()).in.isEmpty()) return STATE;
        if (w.ledger.size() == 40) return FULL;
        Deed deed = new Deed();
        deed.lanes = w.twinLanes();
        deed.filled = true;
        Went went = filling(w.lanes);
        for (int[] in : went.in) {
            w.ships.get(in[0]).state = 1;
            w.ships.get(in[0]).by = w.ledger.size();
            deed.who.add(in[0]);
        }
        w.ledger.add(waterOf(went));
        did(deed);
        return went.in.size();
    }

    void did(Deed deed) {
        deeds.add(deed);
        if (deeds.size() > 6) deeds.remove(0);
    }

    int next(int k, int what) {
        if (k < 0 || what < 0 || what > 2) return BAD;
        Went went = filling(w.twinLanes());
        return k >= went.in.size() ? NONE : went.in.get(k)[what];
    }

    long water() {
        Went went = filling(w.twinLanes());
        return went.in.isEmpty() ? NO : waterOf(went);
    }

    long spent(int i) {
        if (i == NONE) {
            long all = 0;
            for (int water : w.ledger) all += water;
            return all;
        }
        return i < 0 || i >= w.ledger.size() ? NO : w.ledger.get(i);
    }

    int leave(int ship) {
        if (no(ship)) return BAD;
        Ship s = w.ships.get(ship);
        if (s.state != 0) return STATE;
        Deed deed = new Deed();
        deed.lanes = w.twinLanes();
        deed.who.add(ship);
        w.lanes.get(s.lane).remove((Integer) ship);
        s.state = 2;
        did(deed);
        return count(6);
    }

    int undo() {
        if (deeds.isEmpty()) return STATE;
        Deed deed = deeds.remove(deeds.size() - 1);
        w.lanes = deed.lanes;
        for (int ship : deed.who) {
            w.ships.get(ship).state = 0;
            w.ships.get(ship).by = NONE;
        }
        if (deed.filled) w.ledger.remove(w.ledger.size() - 1);
        return deeds.size();
    }

    int plan(int what) {
        if (what < 0 || what > 2) return BAD;
        List<List<Integer>> lanes = w.twinLanes();
        int n = 0, water = 0, stuck = 0;
        for (Went went = filling(lanes); !went.in.isEmpty(); went = filling(lanes)) {
            n++;
            water += waterOf(went);
        }
        for (List<Integer> lane : lanes) for (int ship : lane) stuck |= 1 << ship;
        return what == 0 ? n : what == 1 ? stuck : water;
    }

    int drought() {
        List<List<Integer>> lanes = w.twinLanes();
        int last = NONE, day = 0, sum = 0;
        for (Went went = filling(lanes); !went.in.isEmpty(); went = filling(lanes)) {
            while (day < 200 && may(day) != NONE && sum + waterOf(went) > may(day)) {
                day++;
                sum = 0;
            }
            if (day == 200) return NONE;
            sum += waterOf(went);
            last = day;
        }
        return last;
    }

    int[] wait;
    int begun, latest;

    void asTheyCome() {
        wait = new int[10];
        Arrays.fill(wait, NONE);
        begun = 0;
        latest = NONE;
        List<List<Integer>> lanes = new ArrayList<>(List.of(new ArrayList<>(), new ArrayList<>()));
        int free = 0;
        for (int minute = 0; minute < 2000; minute++) {
            for (int lane = 0; lane < 2; lane++) {
                for (int ship : w.lanes.get(lane)) {
                    if (w.ships.get(ship).comes == minute) lanes.get(lane).add(ship);
                }
            }
            if (minute < free) continue;
            Went went = filling(lanes);
            if (went.in.isEmpty()) continue;
            for (int[] in : went.in) wait[in[0]] = minute - w.ships.get(in[0]).comes;
            begun++;
            latest = minute;
            free = minute + w.minutes;
        }
    }

    int waits(int ship) {
        if (no(ship)) return BAD;
        if (w.ships.get(ship).state != 0) return STATE;
        asTheyCome();
        return wait[ship];
    }

    int line(int i) {
        if (i < 0) return BAD;
        asTheyCome();
        List<Integer> line = new ArrayList<>();
        for (int ship = 0; ship < 10; ship++) if (wait[ship] >= 0) line.add(ship);
        line.sort((a, b) -> wait[a] != wait[b] ? wait[b] - wait[a] : a - b);
        return i >= line.size() ? NONE : line.get(i);
    }

    int day(int what) {
        if (what < 0 || what > 2) return BAD;
        asTheyCome();
        int all = 0;
        for (int minutes : wait) if (minutes > 0) all += minutes;
        return what == 0 ? all : what == 1 ? begun : latest;
    }

    /** The best of all that is behind (i, j): how many, water, of lane 0, of lane 1; null: it can't be. */
    int[] best(int i, int j) {
        List<Integer> one = w.lanes.get(0);
        List<Integer> two = w.lanes.get(1);
        if (i == one.size() && j == two.size()) return new int[] {0, 0, 0, 0};
        int[] best = null;
        for (int a = one.size() - i; a >= 0; a--) {
            for (int b = two.size() - j; b >= 0; b--) {
                if (a + b == 0) continue;
                Went went = empty();
                boolean all = true;
                for (int k = 0; k < a && all; k++) all = goesIn(went, one.get(i + k));
                for (int k = 0; k < b && all; k++) all = goesIn(went, two.get(j + k));
                if (!all) continue;
                int[] rest = best(i + a, j + b);
                if (rest == null) continue;
                int n = 1 + rest[0], water = waterOf(went) + rest[1];
                if (best == null || n < best[0] || n == best[0] && water < best[1]) best = new int[] {n, water, a, b};
            }
        }
        return best;
    }

    int freely(int what) {
        if (what < 0 || what > 3) return BAD;
        int[] best = best(0, 0);
        return best == null ? NONE : best[what];
    }

    List<Integer> foretold(int n) {
        List<List<Integer>> lanes = w.twinLanes();
        List<Integer> all = new ArrayList<>();
        for (int i = 0; i < n; i++) all.add(filling(lanes).in.size());
        return all;
    }

    int tells(int sheet, int ship, int what) {
        if (sheet < 0 || sheet > 3 || what < 0 || what > 3 || what > 1 && no(ship)) return BAD;
        if (what > 1 && w.ships.get(ship).state != 0) return STATE;
        if (sheets[sheet] == null) return -11;
        if (sheets[sheet].length > 8) return BAD;
        int[] told = sheets[sheet];
        if (what == 0) {
            List<Integer> is = foretold(told.length);
            for (int i = 0; i < told.length; i++) if (told[i] != is.get(i)) return i;
            return NONE;
        }
        World was = w;
        int bits = 0;
        for (int v = what == 3 ? 1 : 0; v <= (what == 1 ? 4 : what == 2 ? 5 : 9); v++) {
            w = was.twin();
            if (what == 1) w.rule = v;
            if (what == 2) w.ships.get(ship).kind = v;
            if (what == 3) w.ships.get(ship).length = v;
            if (tells(sheet, 0, 0) == NONE) bits |= 1 << v;
        }
        w = was;
        return bits;
    }

    int film(int sheet, int n) {
        if (sheet < 0 || sheet > 3 || n < 0 || n > 8) return BAD;
        sheets[sheet] = new int[n];
        sorts[sheet] = 0;
        List<Integer> is = foretold(n);
        for (int i = 0; i < n; i++) sheets[sheet][i] = is.get(i);
        return n;
    }

    int image() {
        img = w.twin();
        return w.ships.size();
    }

    int back() {
        if (img == null) return STATE;
        w = img.twin();
        deeds.clear();
        return w.ships.size();
    }

    int sheet(int sheet, int sort, int n) {
        if (sheet < 0 || sheet > 3 || sort < -1 || sort > 1) return BAD;
        if (sort == -1) {
            sheets[sheet] = null;
            sorts[sheet] = -1;
            return 1;
        }
        if (n > 40) return BAD;
        if (n < 0) return -14;
        sheets[sheet] = new int[n];
        sorts[sheet] = sort;
        return 1;
    }

    int put(int sheet, int i, int v) {
        if (sheet < 0 || sheet > 3) return BAD;
        if (sheets[sheet] == null) return -11;
        if (i < 0 || i >= sheets[sheet].length) return -12;
        int low = v & 255;
        sheets[sheet][i] = sorts[sheet] == 1 ? v : low < 128 ? low : low - 256;
        return 1;
    }

    int copy(int sheet, int i, int other, int j, int n) {
        if (sheet < 0 || sheet > 3 || other < 0 || other > 3) return BAD;
        if (sheets[sheet] == null || sheets[other] == null) return -11;
        if (sorts[sheet] != sorts[other]) return -13;
        if (n < 0 || i < 0 || j < 0) return -12;
        if ((long) i + n > sheets[sheet].length || (long) j + n > sheets[other].length) return -12;
        int[] were = sheets[sheet].clone();
        for (int k = 0; k < n; k++) sheets[other][j + k] = were[i + k];
        return n;
    }

    int load(int sheet, int sort, int from, int n) {
        if (sheet < 0 || sheet > 3 || sort < 0 || sort > 1 || n < 0 || n > 10) return BAD;
        if (sheets[sheet] == null) return -11;
        if (sorts[sheet] != sort) return -13;
        int came = 0;
        for (int k = 0; k < n; k++) {
            int[] five = new int[5];
            for (int f = 0; f < 5; f++) {
                long at = (long) from + 5 * k + f;
                if (at < 0 || at >= sheets[sheet].length) return -12;
                five[f] = sheets[sheet][(int) at];
            }
            if (ship(five[0], five[1], five[2], five[3], five[4]) >= 0) came++;
        }
        return came;
    }
}
