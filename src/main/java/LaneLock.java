import java.util.Arrays;

/** A lock keeper's mind. What each call does stands in DOC.md, promise by promise. */
public final class LaneLock {
    public static final int NONE = -1, BAD = -2, STATE = -3, FULL = -4;
    public static final long NO = Long.MIN_VALUE;

    private static final int MISSING = -11, OUTSIDE = -12, UNLIKE = -13, TOO_SMALL = -14;

    private static final int MOST_SHIPS = 10, MOST_LENGTH = 9, MOST_FIRST = 9;
    private static final int THOUSAND = 1000, LANES = 2;

    private static final int SHIP = 0, BARGE = 1, PAIR = 2, FERRY = 3, PILOT = 4, TANKER = 5;
    private static final int[] UNDER = {NONE, SHIP, BARGE, SHIP, FERRY, BARGE};

    private static final int LONG = 0, ROWS = 1, FALL = 2, MINUTES = 3, RULE = 4;
    private static final int[] LEAST_SETTING = {1, 1, 1, 1, 0};
    private static final int[] MOST_SETTING = {20, 3, 99, 60, 4};
    private static final int[] FIRST_SETTING = {10, 2, 5, 10, 0};
    private static final int MOST_LONG = 20, MOST_ROWS = 3;
    private static final int TURNS = 0, RANKED = 1, SHORT = 2, OLD = 3, HEAVY = 4;

    private static final int MOST_FILLINGS = 40, CAP_DAYS = 100, DAYS = 200, MOST_CAP = 99999;
    private static final int MOST_DEEDS = 6;
    private static final int SHEETS = 4, MOST_ITEMS = 40, MOST_TOLD = 8, BYTES = 0, INTS = 1;
    private static final int ITEMS_OF_SHIP = 5;

    private static final int[] BY_NUMBER = {0, 1, 2, 3, 4, 5, 6, 7, 8, 9};

    private final Keep now;
    private final Keep kept;
    private boolean hasImage;
    private final int[] deeds;
    private int deedCount;
    private final Filling filling;
    private final Arrivals arrivals;
    private final Choice choice;
    private final Sheet[] sheets;

    public LaneLock() {
        now = new Keep();
        kept = new Keep();
        deeds = new int[MOST_DEEDS];
        filling = new Filling(now);
        arrivals = new Arrivals(now, filling);
        choice = new Choice(now);
        sheets = new Sheet[SHEETS];
        for (int i = 0; i < SHEETS; i++) {
            sheets[i] = new Sheet();
        }
    }

    // ---- ships, the chamber

    public int ship(int lane, int kind, int length, int first, int loadAndComes) {
        if (!isLane(lane) || !isKind(kind) || length < 1 || length > MOST_LENGTH) {
            return BAD;
        }
        if (first < 0 || first > MOST_FIRST) {
            return BAD;
        }
        if (loadAndComes < 0 || loadAndComes >= THOUSAND * THOUSAND) {
            return BAD;
        }
        if (now.ships >= MOST_SHIPS) {
            return FULL;
        }
        int ship = now.ships;
        now.kinds[ship] = kind;
        now.lengths[ship] = length;
        now.firsts[ship] = first;
        now.loads[ship] = loadAndComes / THOUSAND;
        now.comes[ship] = loadAndComes % THOUSAND;
        now.lanes[ship] = lane;
        now.by[ship] = NONE;
        now.waiting |= 1 << ship;
        now.ships++;
        deedCount = 0;
        return ship;
    }

    public int set(int what, int v) {
        if (!isSetting(what) || v < LEAST_SETTING[what] || v > MOST_SETTING[what]) {
            return BAD;
        }
        int was = now.settings[what];
        now.settings[what] = v;
        return was;
    }

    public int bar(int row, int place, boolean is) {
        if (row < 0 || row >= MOST_ROWS || place < 0 || place >= MOST_LONG) {
            return BAD;
        }
        int was = (now.barred[row] >> place) & 1;
        if (is) {
            now.barred[row] |= 1 << place;
        } else {
            now.barred[row] &= ~(1 << place);
        }
        return was;
    }

    public int cap(int day, int v) {
        if (day < 0 || day >= CAP_DAYS || v < NONE || v > MOST_CAP) {
            return BAD;
        }
        int was = now.caps[day];
        now.caps[day] = v;
        return was;
    }

    public int may(int day) {
        return day < 0 || day >= DAYS ? BAD : now.bound(day);
    }

    public int told(int ship, int what) {
        if (!now.isShip(ship)) {
            return BAD;
        }
        switch (what) {
            case 0: return now.kinds[ship];
            case 1: return now.lengths[ship];
            case 2: return now.firsts[ship];
            case 3: return now.loads[ship];
            case 4: return now.comes[ship];
            case 5: return now.lanes[ship];
            case 6: return now.isWaiting(ship) ? 0 : now.isGone(ship) ? 1 : 2;
            case 7: return now.span(ship);
            case 8: return now.rank(ship);
            case 9: return now.by[ship];
            default: return BAD;
        }
    }

    public int lane(int lane, int i) {
        return !isLane(lane) ? BAD : now.waiter(lane, i);
    }

    public int count(int what) {
        if (isSetting(what)) {
            return now.settings[what];
        }
        switch (what) {
            case 5: return now.ships;
            case 6: return Integer.bitCount(now.waiting);
            case 7: return now.fillings;
            case 8: return deedCount;
            case 9: return now.freePlaces();
            default: return BAD;
        }
    }

    public int taken(int ship, int k) {
        if (!now.isShip(ship) || !isKind(k)) {
            return BAD;
        }
        return isUnder(now.kinds[ship], k) ? now.lengths[ship] : UNLIKE;
    }

    // ---- fillings

    public int fill() {
        int in = filling.byRule(now.waiting, BY_NUMBER);
        if (in == 0) {
            return STATE;
        }
        if (now.fillings >= MOST_FILLINGS) {
            return FULL;
        }
        now.goneBy(in, filling.spends());
        remember(in);
        return Integer.bitCount(in);
    }

    public int next(int k, int what) {
        if (k < 0 || what < 0 || what > 2) {
            return BAD;
        }
        filling.byRule(now.waiting, BY_NUMBER);
        if (k >= filling.size) {
            return NONE;
        }
        return what == 0 ? filling.who[k] : what == 1 ? filling.rows[k] : filling.places[k];
    }

    public long water() {
        return filling.byRule(now.waiting, BY_NUMBER) == 0 ? NO : filling.spends();
    }

    public long spent(int i) {
        if (i < NONE || i >= now.fillings) {
            return NO;
        }
        return i == NONE ? now.spentInAll() : now.ledger[i];
    }

    public int leave(int ship) {
        if (!now.isShip(ship)) {
            return BAD;
        }
        if (!now.isWaiting(ship)) {
            return STATE;
        }
        now.waiting &= ~(1 << ship);
        remember(1 << ship);
        return Integer.bitCount(now.waiting);
    }

    public int undo() {
        if (deedCount < 1 || deedCount > MOST_DEEDS) {
            return STATE;
        }
        deedCount--;
        now.takeBack(deeds[deedCount]);
        return deedCount;
    }

    // ---- in thought

    public int plan(int what) {
        if (what < 0 || what > 2) {
            return BAD;
        }
        int waiting = now.waiting;
        int fillings = 0;
        int water = 0;
        for (int k = 0; k < MOST_SHIPS; k++) {
            int in = filling.byRule(waiting, BY_NUMBER);
            if (in == 0) {
                break;
            }
            waiting &= ~in;
            fillings++;
            water += filling.spends();
        }
        return what == 0 ? fillings : what == 1 ? waiting : water;
    }

    public int drought() {
        int waiting = now.waiting;
        int day = 0;
        int used = 0;
        int last = NONE;
        for (int k = 0; k < MOST_SHIPS; k++) {
            int in = filling.byRule(waiting, BY_NUMBER);
            if (in == 0) {
                break;
            }
            waiting &= ~in;
            int water = filling.spends();
            last = now.dayFor(day, used, water);
            if (last == NONE) {
                return NONE;
            }
            used = last == day ? used + water : water;
            day = last;
        }
        return last;
    }

    public int waits(int ship) {
        if (!now.isShip(ship)) {
            return BAD;
        }
        if (!now.isWaiting(ship)) {
            return STATE;
        }
        arrivals.run();
        return arrivals.waitOf(ship);
    }

    public int line(int i) {
        if (i < 0) {
            return BAD;
        }
        arrivals.run();
        return arrivals.inLine(i);
    }

    public int day(int what) {
        if (what < 0 || what > 2) {
            return BAD;
        }
        arrivals.run();
        return what == 0 ? arrivals.allWaits() : what == 1 ? arrivals.fillings : arrivals.latest;
    }

    public int freely(int what) {
        if (what < 0 || what > 3) {
            return BAD;
        }
        choice.run();
        switch (what) {
            case 0: return choice.fewest;
            case 1: return choice.least;
            case 2: return choice.ofFirst;
            default: return choice.ofSecond;
        }
    }

    // ---- what was told

    public int tells(int sheet, int ship, int what) {
        if (!isSheet(sheet) || what < 0 || what > 3) {
            return BAD;
        }
        boolean ofShip = what >= 2;
        if (ofShip && !now.isShip(ship)) {
            return BAD;
        }
        if (ofShip && !now.isWaiting(ship)) {
            return STATE;
        }
        Sheet told = sheets[sheet];
        if (told.isMissing()) {
            return MISSING;
        }
        if (told.size > MOST_TOLD) {
            return BAD;
        }
        switch (what) {
            case 0: return firstOtherwise(told);
            case 1: return tried(told, now.settings, RULE, TURNS, HEAVY);
            case 2: return tried(told, now.kinds, ship, SHIP, TANKER);
            default: return tried(told, now.lengths, ship, 1, MOST_LENGTH);
        }
    }

    public int film(int sheet, int n) {
        if (!isSheet(sheet) || n < 0 || n > MOST_TOLD) {
            return BAD;
        }
        sheets[sheet].become(BYTES, n);
        int waiting = now.waiting;
        for (int i = 0; i < n; i++) {
            int in = filling.byRule(waiting, BY_NUMBER);
            waiting &= ~in;
            sheets[sheet].write(i, Integer.bitCount(in));
        }
        return n;
    }

    public int image() {
        kept.become(now);
        hasImage = true;
        return kept.ships;
    }

    public int back() {
        if (!hasImage) {
            return STATE;
        }
        now.become(kept);
        deedCount = 0;
        return now.ships;
    }

    // ---- the host

    public int sheet(int sheet, int sort, int n) {
        if (!isSheet(sheet) || (sort != NONE && !isSort(sort))) {
            return BAD;
        }
        if (sort == NONE) {
            sheets[sheet].become(NONE, 0);
            return 1;
        }
        if (n > MOST_ITEMS) {
            return BAD;
        }
        if (n < 0) {
            return TOO_SMALL;
        }
        sheets[sheet].become(sort, n);
        return 1;
    }

    public int put(int sheet, int i, int v) {
        if (!isSheet(sheet)) {
            return BAD;
        }
        if (sheets[sheet].isMissing()) {
            return MISSING;
        }
        if (!sheets[sheet].has(i)) {
            return OUTSIDE;
        }
        sheets[sheet].write(i, v);
        return 1;
    }

    public int copy(int sheet, int i, int other, int j, int n) {
        if (!isSheet(sheet) || !isSheet(other)) {
            return BAD;
        }
        Sheet from = sheets[sheet];
        Sheet to = sheets[other];
        if (from.isMissing() || to.isMissing()) {
            return MISSING;
        }
        if (from.sort != to.sort) {
            return UNLIKE;
        }
        if (!from.hasRun(i, n) || !to.hasRun(j, n)) {
            return OUTSIDE;
        }
        System.arraycopy(from.items, i, to.items, j, n);
        return n;
    }

    public int load(int sheet, int sort, int from, int n) {
        if (!isSheet(sheet) || !isSort(sort) || n < 0 || n > MOST_SHIPS) {
            return BAD;
        }
        Sheet read = sheets[sheet];
        if (!read.isMissing() && read.sort != sort) {
            return UNLIKE;
        }
        if (read.isMissing()) {
            return MISSING;
        }
        int came = 0;
        for (int k = 0; k < n; k++) {
            int at = from + ITEMS_OF_SHIP * k;
            if (!read.hasRun(at, ITEMS_OF_SHIP)) {
                return OUTSIDE;
            }
            int[] items = read.items;
            int ship = ship(items[at], items[at + 1], items[at + 2], items[at + 3], items[at + 4]);
            came += ship >= 0 ? 1 : 0;
        }
        return came;
    }

    // ---- numbers that are such, or not

    private static boolean isLane(int lane) {
        return lane >= 0 && lane < LANES;
    }

    private static boolean isKind(int kind) {
        return kind >= SHIP && kind <= TANKER;
    }

    private static boolean isSetting(int what) {
        return what >= LONG && what <= RULE;
    }

    private static boolean isSheet(int sheet) {
        return sheet >= 0 && sheet < SHEETS;
    }

    private static boolean isSort(int sort) {
        return sort == BYTES || sort == INTS;
    }

    private static boolean isUnder(int kind, int other) {
        int at = kind;
        for (int step = 0; step < UNDER.length && isKind(at); step++) {
            if (at == other) {
                return true;
            }
            at = UNDER[at];
        }
        return false;
    }

    // ---- deeds, and what was told

    private void remember(int ships) {
        if (deedCount >= MOST_DEEDS) {
            System.arraycopy(deeds, 1, deeds, 0, MOST_DEEDS - 1);
            deedCount = MOST_DEEDS - 1;
        }
        deeds[deedCount] = ships;
        deedCount++;
    }

    private int firstOtherwise(Sheet told) {
        int waiting = now.waiting;
        for (int i = 0; i < told.size && i < MOST_TOLD; i++) {
            int in = filling.byRule(waiting, BY_NUMBER);
            waiting &= ~in;
            if (told.items[i] != Integer.bitCount(in)) {
                return i;
            }
        }
        return NONE;
    }

    /** Bits of the values that, tried at a place of the row, make all come as told; the row stays as it was. */
    private int tried(Sheet told, int[] row, int place, int least, int most) {
        if (place < 0 || place >= row.length) {
            return 0;
        }
        int was = row[place];
        int bits = 0;
        for (int v = least; v <= most; v++) {
            row[place] = v;
            if (firstOtherwise(told) == NONE) {
                bits |= 1 << v;
            }
        }
        row[place] = was;
        return bits;
    }

    /**
     * All that an image keeps. The lanes need no rows of their own: ships come behind those that are
     * there and an undone deed puts them back where they were, so a lane stands in the order of its
     * ships' numbers.
     */
    private static final class Keep {
        int ships;
        int waiting;
        int gone;
        final int[] kinds = new int[MOST_SHIPS];
        final int[] lengths = new int[MOST_SHIPS];
        final int[] firsts = new int[MOST_SHIPS];
        final int[] loads = new int[MOST_SHIPS];
        final int[] comes = new int[MOST_SHIPS];
        final int[] lanes = new int[MOST_SHIPS];
        final int[] by = new int[MOST_SHIPS];
        final int[] settings = FIRST_SETTING.clone();
        final int[] barred = new int[MOST_ROWS];
        final int[] caps = new int[CAP_DAYS];
        int fillings;
        final int[] ledger = new int[MOST_FILLINGS];

        Keep() {
            Arrays.fill(caps, NONE);
        }

        void become(Keep other) {
            ships = other.ships;
            waiting = other.waiting;
            gone = other.gone;
            fillings = other.fillings;
            System.arraycopy(other.kinds, 0, kinds, 0, MOST_SHIPS);
            System.arraycopy(other.lengths, 0, lengths, 0, MOST_SHIPS);
            System.arraycopy(other.firsts, 0, firsts, 0, MOST_SHIPS);
            System.arraycopy(other.loads, 0, loads, 0, MOST_SHIPS);
            System.arraycopy(other.comes, 0, comes, 0, MOST_SHIPS);
            System.arraycopy(other.lanes, 0, lanes, 0, MOST_SHIPS);
            System.arraycopy(other.by, 0, by, 0, MOST_SHIPS);
            System.arraycopy(other.settings, 0, settings, 0, RULE + 1);
            System.arraycopy(other.barred, 0, barred, 0, MOST_ROWS);
            System.arraycopy(other.caps, 0, caps, 0, CAP_DAYS);
            System.arraycopy(other.ledger, 0, ledger, 0, MOST_FILLINGS);
        }

        boolean isShip(int ship) {
            return ship >= 0 && ship < ships && ship < MOST_SHIPS;
        }

        boolean isWaiting(int ship) {
            return isShip(ship) && ((waiting >> ship) & 1) != 0;
        }

        boolean isGone(int ship) {
            return isShip(ship) && ((gone >> ship) & 1) != 0;
        }

        int waiter(int lane, int i) {
            int behind = i;
            for (int ship = 0; ship < MOST_SHIPS; ship++) {
                if (isWaiting(ship) && lanes[ship] == lane) {
                    if (behind == 0) {
                        return ship;
                    }
                    behind--;
                }
            }
            return NONE;
        }

        int waitersOf(int lane) {
            int all = 0;
            for (int ship = 0; ship < MOST_SHIPS; ship++) {
                all += isWaiting(ship) && lanes[ship] == lane ? 1 : 0;
            }
            return all;
        }

        int span(int ship) {
            if (ship < 0 || ship >= MOST_SHIPS) {
                return NONE;
            }
            int length = lengths[ship];
            switch (kinds[ship]) {
                case BARGE:
                case TANKER: return length + 1;
                case PAIR: return 2 * (length + 1);
                case PILOT: return Math.max(1, length - 1);
                default: return length;
            }
        }

        int rank(int ship) {
            if (ship < 0 || ship >= MOST_SHIPS) {
                return NONE;
            }
            int first = firsts[ship];
            switch (kinds[ship]) {
                case FERRY: return first + 10;
                case PILOT: return 2 * (first + 10);
                default: return first;
            }
        }

        int freePlaces() {
            int inRow = (1 << settings[LONG]) - 1;
            int free = 0;
            for (int row = 0; row < settings[ROWS] && row < MOST_ROWS; row++) {
                free += Integer.bitCount(inRow & ~barred[row]);
            }
            return free;
        }

        /** The cap that holds on a day, or NONE. */
        int bound(int day) {
            for (int d = Math.min(day, CAP_DAYS - 1); d >= 0; d--) {
                if (caps[d] != NONE) {
                    return caps[d];
                }
            }
            return NONE;
        }

        boolean allows(int day, int water) {
            int most = bound(day);
            return most == NONE || water <= most;
        }

        /** The day on which water can be spent, when some is used on this one; NONE: on no day. */
        int dayFor(int day, int used, int water) {
            if (allows(day, used + water)) {
                return day;
            }
            for (int d = day + 1; d < DAYS; d++) {
                if (allows(d, water)) {
                    return d;
                }
            }
            return NONE;
        }

        void goneBy(int in, int water) {
            if (fillings < 0 || fillings >= MOST_FILLINGS) {
                return;
            }
            for (int ship = 0; ship < MOST_SHIPS; ship++) {
                if (((in >> ship) & 1) != 0) {
                    by[ship] = fillings;
                }
            }
            waiting &= ~in;
            gone |= in;
            ledger[fillings] = water;
            fillings++;
        }

        /** Undoes a deed of these ships: those of a filling are gone, one that left isn't. */
        void takeBack(int deed) {
            if ((deed & gone) != 0) {
                fillings--;
            }
            for (int ship = 0; ship < MOST_SHIPS; ship++) {
                if (((deed >> ship) & 1) != 0) {
                    by[ship] = NONE;
                }
            }
            gone &= ~deed;
            waiting |= deed;
        }

        long spentInAll() {
            long all = 0;
            for (int i = 0; i < fillings && i < MOST_FILLINGS; i++) {
                all += ledger[i];
            }
            return all;
        }
    }

    /** A filling in thought: what of the chamber is free no more, and who went in, in order. */
    private static final class Filling {
        private final Keep keep;
        private final int[] closed = new int[MOST_ROWS];
        final int[] who = new int[MOST_SHIPS];
        final int[] rows = new int[MOST_SHIPS];
        final int[] places = new int[MOST_SHIPS];
        int size;
        private int loads;
        private boolean hasTanker;

        Filling(Keep keep) {
            this.keep = keep;
        }

        void begin() {
            System.arraycopy(keep.barred, 0, closed, 0, MOST_ROWS);
            size = 0;
            loads = 0;
            hasTanker = false;
        }

        void become(Filling other) {
            System.arraycopy(other.closed, 0, closed, 0, MOST_ROWS);
            System.arraycopy(other.who, 0, who, 0, MOST_SHIPS);
            System.arraycopy(other.rows, 0, rows, 0, MOST_SHIPS);
            System.arraycopy(other.places, 0, places, 0, MOST_SHIPS);
            size = other.size;
            loads = other.loads;
            hasTanker = other.hasTanker;
        }

        int spends() {
            int[] of = keep.settings;
            return Math.max(0, of[LONG] * of[ROWS] * of[FALL] - loads);
        }

        /** The ship goes in, if it fits: whether it did. */
        boolean enter(int ship) {
            if (!keep.isShip(ship) || size >= MOST_SHIPS || hasTanker) {
                return false;
            }
            boolean isTanker = keep.kinds[ship] == TANKER;
            if (isTanker && size > 0) {
                return false;
            }
            int span = keep.span(ship);
            for (int row = 0; row < keep.settings[ROWS] && row < MOST_ROWS; row++) {
                int place = firstRun(closed[row], span);
                if (place != NONE) {
                    closed[row] |= run(span) << place;
                    who[size] = ship;
                    rows[size] = row;
                    places[size] = place;
                    size++;
                    loads += keep.loads[ship];
                    hasTanker = isTanker;
                    return true;
                }
            }
            return false;
        }

        private static int run(int span) {
            return (1 << span) - 1;
        }

        private int firstRun(int closedPlaces, int span) {
            for (int place = 0; place + span <= keep.settings[LONG]; place++) {
                if ((closedPlaces & (run(span) << place)) == 0) {
                    return place;
                }
            }
            return NONE;
        }

        /** Fills the chamber by the rule with those of waiting, in each lane in this order: who went in. */
        int byRule(int waiting, int[] order) {
            begin();
            int still = waiting;
            int open = (1 << LANES) - 1;
            int latest = NONE;
            // in each step a ship goes in or a lane is shut
            for (int step = 0; step < MOST_SHIPS + LANES; step++) {
                int ship = nextHead(still, open, order, latest);
                if (!keep.isShip(ship)) {
                    break;
                }
                if (enter(ship)) {
                    still &= ~(1 << ship);
                    latest = keep.lanes[ship];
                } else {
                    open &= ~(1 << keep.lanes[ship]);
                }
            }
            return waiting & ~still;
        }

        private int nextHead(int still, int open, int[] order, int latest) {
            int one = (open & 1) != 0 ? head(0, still, order) : NONE;
            int two = (open & 2) != 0 ? head(1, still, order) : NONE;
            if (one == NONE || two == NONE) {
                return one == NONE ? two : one;
            }
            return isSecondTaken(one, two, latest) ? two : one;
        }

        private int head(int lane, int still, int[] order) {
            for (int i = 0; i < order.length; i++) {
                int ship = order[i];
                if (keep.isShip(ship) && ((still >> ship) & 1) != 0 && keep.lanes[ship] == lane) {
                    return ship;
                }
            }
            return NONE;
        }

        private boolean isSecondTaken(int one, int two, int latest) {
            if (!keep.isShip(one) || !keep.isShip(two)) {
                return false;
            }
            switch (keep.settings[RULE]) {
                case RANKED: return keep.rank(two) > keep.rank(one);
                case SHORT: return keep.span(two) < keep.span(one);
                case OLD: return keep.comes[two] < keep.comes[one];
                case HEAVY: return keep.loads[two] > keep.loads[one];
                default: return latest == 0;
            }
        }
    }

    /** How it goes, if all come to their lanes at their minutes. */
    private static final class Arrivals {
        private final Keep keep;
        private final Filling filling;
        private final int[] order = new int[MOST_SHIPS];
        private final int[] waits = new int[MOST_SHIPS];
        int fillings;
        int latest;

        Arrivals(Keep keep, Filling filling) {
            this.keep = keep;
            this.filling = filling;
        }

        void run() {
            sortByComes();
            Arrays.fill(waits, NONE);
            fillings = 0;
            latest = NONE;
            int waiting = keep.waiting;
            int minute = 0;
            // in each step but the first a ship goes in or one comes; nothing can begin between
            for (int step = 0; step <= 2 * MOST_SHIPS && minute != NONE; step++) {
                int in = filling.byRule(comeBy(minute, waiting), order);
                if (in != 0) {
                    begin(in, minute);
                    waiting &= ~in;
                    minute += keep.settings[MINUTES];
                } else {
                    minute = nextComes(minute, waiting);
                }
            }
        }

        private void sortByComes() {
            for (int i = 0; i < MOST_SHIPS; i++) {
                int at = i;
                for (; at > 0 && keep.comes[order[at - 1]] > keep.comes[i]; at--) {
                    order[at] = order[at - 1];
                }
                order[at] = i;
            }
        }

        private int comeBy(int minute, int waiting) {
            int bits = 0;
            for (int ship = 0; ship < MOST_SHIPS; ship++) {
                bits |= keep.comes[ship] <= minute ? 1 << ship : 0;
            }
            return bits & waiting;
        }

        private int nextComes(int minute, int waiting) {
            int least = NONE;
            for (int ship = 0; ship < MOST_SHIPS; ship++) {
                int comes = keep.comes[ship];
                boolean isLater = ((waiting >> ship) & 1) != 0 && comes > minute;
                if (isLater && (least == NONE || comes < least)) {
                    least = comes;
                }
            }
            return least;
        }

        private void begin(int in, int minute) {
            fillings++;
            latest = minute;
            for (int ship = 0; ship < MOST_SHIPS; ship++) {
                if (((in >> ship) & 1) != 0) {
                    waits[ship] = minute - keep.comes[ship];
                }
            }
        }

        int waitOf(int ship) {
            return ship < 0 || ship >= MOST_SHIPS ? NONE : waits[ship];
        }

        int allWaits() {
            int all = 0;
            for (int ship = 0; ship < MOST_SHIPS; ship++) {
                all += Math.max(0, waits[ship]);
            }
            return all;
        }

        /** The ship ahead of which i others stand in the line. */
        int inLine(int i) {
            for (int ship = 0; ship < MOST_SHIPS; ship++) {
                if (waits[ship] != NONE && ahead(ship) == i) {
                    return ship;
                }
            }
            return NONE;
        }

        private int ahead(int ship) {
            int ahead = 0;
            for (int other = 0; other < MOST_SHIPS; other++) {
                boolean isEarlier = waits[other] == waits[ship] && other < ship;
                ahead += isEarlier || waits[other] > waits[ship] ? 1 : 0;
            }
            return ahead;
        }
    }

    /** The fewest fillings, and the least water, if the keeper takes freely. */
    private static final class Choice {
        private static final int STRIDE = MOST_SHIPS + 1;

        private final Keep keep;
        private final Filling ofOne;
        private final Filling ofBoth;
        private final int[] lanes = new int[LANES];
        private final int[] fewestFrom = new int[STRIDE * STRIDE];
        private final int[] leastFrom = new int[STRIDE * STRIDE];
        int fewest;
        int least;
        int ofFirst;
        int ofSecond;

        Choice(Keep keep) {
            this.keep = keep;
            ofOne = new Filling(keep);
            ofBoth = new Filling(keep);
        }

        /** From the last states to the first, so that what is behind a filling is known ahead of it. */
        void run() {
            for (int lane = 0; lane < LANES; lane++) {
                lanes[lane] = keep.waitersOf(lane);
            }
            for (int i = lanes[0]; i >= 0; i--) {
                for (int j = lanes[1]; j >= 0; j--) {
                    settle(i, j);
                }
            }
        }

        /** What is best once i of lane 0 and j of lane 1 are gone. */
        private void settle(int i, int j) {
            boolean isEnd = i == lanes[0] && j == lanes[1];
            fewest = isEnd ? 0 : NONE;
            least = fewest;
            ofFirst = fewest;
            ofSecond = fewest;
            ofOne.begin();
            for (int a = 0; i + a <= lanes[0]; a++) {
                if (a > 0 && !ofOne.enter(keep.waiter(0, i + a - 1))) {
                    break;
                }
                ofBoth.become(ofOne);
                for (int b = 0; j + b <= lanes[1]; b++) {
                    if (b > 0 && !ofBoth.enter(keep.waiter(1, j + b - 1))) {
                        break;
                    }
                    weigh(i, j, a, b);
                }
            }
            int state = stateOf(i, j);
            fewestFrom[state] = fewest;
            leastFrom[state] = least;
        }

        /** Of choices that are as good the latest stays: they come with ever more of lane 0, then of lane 1. */
        private void weigh(int i, int j, int a, int b) {
            int behind = stateOf(i + a, j + b);
            // a filling that takes nobody is none
            if (a + b == 0 || fewestFrom[behind] == NONE) {
                return;
            }
            int count = fewestFrom[behind] + 1;
            int water = leastFrom[behind] + ofBoth.spends();
            if (fewest == NONE || count < fewest || (count == fewest && water <= least)) {
                fewest = count;
                least = water;
                ofFirst = a;
                ofSecond = b;
            }
        }

        private static int stateOf(int i, int j) {
            return i * STRIDE + j;
        }
    }

    /** A row of numbers of a sort, or nothing. */
    private static final class Sheet {
        int sort = NONE;
        int size;
        final int[] items = new int[MOST_ITEMS];

        boolean isMissing() {
            return sort == NONE;
        }

        boolean has(int i) {
            return i >= 0 && i < size;
        }

        boolean hasRun(int i, int n) {
            return i >= 0 && n >= 0 && i <= size && n <= size - i;
        }

        void become(int newSort, int n) {
            sort = newSort;
            size = Math.max(0, Math.min(n, MOST_ITEMS));
            Arrays.fill(items, 0);
        }

        void write(int i, int v) {
            if (has(i)) {
                items[i] = sort == BYTES ? (byte) v : v;
            }
        }
    }
}
