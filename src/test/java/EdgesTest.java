/**
 * The boundary cases of the document's terms, sentence by sentence: least and most, empty and full, the tenth ship,
 * the third row, the last place, no wrap-around. What is refused stands in RefusalsTest.
 */
public final class EdgesTest extends Checks {
    /** Who goes in by the next filling: each as number, row, place. */
    private static void goes(String what, LaneLock x, int... want) {
        for (int k = 0; k < want.length / 3; k++) {
            for (int of = 0; of < 3; of++) {
                due(what + ", next(" + k + ", " + of + ")", x.next(k, of), want[3 * k + of]);
            }
        }
        dues(what + ", nobody more", NONE, x.next(want.length / 3, 0), x.next(want.length / 3, 1), x.next(want.length / 3, 2));
    }

    // ---- 1: ships, the chamber, a filling

    /** Nine that never fit, and the tenth that does: all that is kept by a ship's number has room for it. */
    private static LaneLock tenth() {
        LaneLock x = chamber(1, 1, 7);
        plain(x, 0, 2, 2, 2, 2, 2, 2, 2, 2, 2);
        due("the tenth's number", x.ship(1, FERRY, 1, 9, 999999), 9);
        return x;
    }

    private static void theTenthShip() {
        LaneLock x = tenth();
        int[] told = {FERRY, 1, 9, 999, 999, 1, 0, 1, 19, NONE};
        for (int what = 0; what < 10; what++) {
            due("the tenth, told " + what, x.told(9, what), told[what]);
        }
        due("the tenth in its lane", x.lane(1, 0), 9);
        due("the ninth of nine", x.lane(0, 8), 8);
        due("no tenth of nine", x.lane(0, 9), NONE);
        dues("the tenth taken", 1, x.taken(9, FERRY), x.taken(9, SHIP));
        dues("the tenth is none such", UNLIKE, x.taken(9, PILOT), x.taken(9, BARGE));
        goes("the tenth", x, 9, 0, 0);
        due("its water", x.water(), 0);
        due("fillings", x.plan(0), 1);
        due("the nine are stuck", x.plan(1), 511);
        due("water of all", x.plan(2), 0);
        due("drought", x.drought(), 0);
        due("the tenth goes in at once", x.waits(9), 0);
        due("the ninth never", x.waits(8), NONE);
        due("line", x.line(0), 9);
        due("line of one", x.line(1), NONE);
        due("the last minute of all", x.day(2), 999);
        row(x, 0, BYTES, 1, 0);
        due("kinds of the tenth", x.tells(0, 9, 2), 1 << SHIP | 1 << FERRY | 1 << PILOT);
        due("lengths of the tenth", x.tells(0, 9, 3), 1 << 1);
        due("eleventh", x.ship(1, SHIP, 1, 0, 0), FULL);
    }

    private static void theTenthGoesAndComesBack() {
        LaneLock x = tenth();
        due("the tenth leaves", x.leave(9), 9);
        due("it left", x.told(9, 6), 2);
        due("it is back", x.undo(), 0);
        due("it waits", x.told(9, 6), 0);
        due("filled", x.fill(), 1);
        due("it is gone", x.told(9, 6), 1);
        due("by the first", x.told(9, 9), 0);
        due("an image of all ten", x.image(), 10);
        due("undone", x.undo(), 0);
        due("by none", x.told(9, 9), NONE);
        due("it waits again", x.told(9, 6), 0);
        due("laid back", x.back(), 10);
        due("gone as in the image", x.told(9, 6), 1);
        due("by the first as in the image", x.told(9, 9), 0);
        LaneLock y = chamber(1, 1, 1);
        y.set(3, 60);
        plain(y, 0, 1, 1, 1, 1, 1, 1, 1, 1, 1, 1);
        for (int k = 0; k < 10; k++) {
            due("hours of ship " + k, y.waits(k), 60 * k);
            due("line", y.line(k), 9 - k);
        }
        due("all hours", y.day(0), 60 * 45);
        for (int k = 0; k < 10; k++) {
            y.set(2, k + 1);
            due("one by one", y.fill(), 1);
            due("by which filling", y.told(k, 9), k);
        }
        for (int k = 0; k < 10; k++) {
            due("ledger", y.spent(k), k + 1);
        }
        due("ten fillings", y.count(7), 10);
        due("no eleventh", y.spent(10), NO);
        due("together", y.spent(NONE), 55);
        due("six deeds", y.count(8), 6);
    }

    private static void spansAndRanks() {
        int[][] want = {
            // kind, length, first, span, rank
            {SHIP, 1, 0, 1, 0}, {SHIP, 9, 9, 9, 9}, {BARGE, 1, 0, 2, 0}, {BARGE, 9, 9, 10, 9}, {PAIR, 1, 0, 4, 0},
            {PAIR, 9, 9, 20, 9}, {FERRY, 1, 0, 1, 10}, {FERRY, 9, 9, 9, 19}, {PILOT, 1, 0, 1, 20}, {PILOT, 2, 1, 1, 22},
            {PILOT, 3, 2, 2, 24}, {PILOT, 9, 9, 8, 38}, {TANKER, 1, 0, 2, 0}, {TANKER, 9, 9, 10, 9}};
        for (int[] of : want) {
            LaneLock x = chamber(of[3], 1, 1);
            x.ship(0, of[0], of[1], of[2], 0);
            due("span of kind " + of[0] + ", length " + of[1], x.told(0, 7), of[3]);
            due("rank of kind " + of[0] + ", first " + of[2], x.told(0, 8), of[4]);
            goes("as long as the chamber", x, 0, 0, 0);
            if (of[3] > 1) {
                x.set(0, of[3] - 1);
                goes("one longer than the chamber", x);
            }
        }
    }

    private static void everyPlaceOfEveryRow() {
        LaneLock x = chamber(20, 3, 1);
        for (int row = 0; row < 3; row++) {
            for (int place = 0; place < 20; place++) {
                due("wasn't", x.bar(row, place, true), 0);
                due("one less", x.count(9), 59);
                due("was", x.bar(row, place, false), 1);
                due("none less", x.count(9), 60);
            }
        }
        for (int row = 0; row < 3; row++) {
            for (int place = 0; place < 20; place++) {
                x.bar(row, place, true);
                due("ever less", x.count(9), 59 - 20 * row - place);
            }
        }
        plain(x, 0, 1);
        goes("all barred", x);
        x.bar(2, 19, false);
        goes("just the very last", x, 0, 2, 19);
        x.set(0, 19);
        goes("a place outside of the chamber", x);
        due("free", x.count(9), 0);
        x.bar(1, 18, false);
        x.set(1, 1);
        goes("a row outside of the chamber", x);
        x.set(1, 2);
        goes("that row", x, 0, 1, 18);
    }

    private static void runs() {
        LaneLock x = chamber(10, 2, 1);
        x.bar(0, 4, true);
        x.bar(1, 4, true);
        plain(x, 0, 6);
        goes("no run goes over the end of a row", x);
        plain(x, 1, 5, 4, 5, 4, 1);
        goes("just as long as the run, in the first row that has one", x, 1, 0, 5, 2, 0, 0, 3, 1, 5, 4, 1, 0);
        LaneLock y = chamber(10, 2, 1);
        y.ship(0, PAIR, 5, 0, 0);
        goes("no run of two rows", y);
        y.set(0, 12);
        goes("a run of one", y, 0, 0, 0);
        LaneLock z = chamber(10, 1, 1);
        z.bar(0, 0, true);
        z.ship(0, BARGE, 9, 0, 0);
        goes("no run from the second place over the end", z);
        z.set(0, 11);
        goes("one more place", z, 0, 0, 1);
        z.set(0, 10);
        z.set(1, 2);
        goes("the next row", z, 0, 1, 0);
        LaneLock w = chamber(3, 3, 1);
        w.bar(2, 0, true);
        plain(w, 0, 3, 3, 2, 1);
        goes("three rows, a buoy in the last", w, 0, 0, 0, 1, 1, 0, 2, 2, 1);
        w.bar(2, 0, false);
        goes("three rows", w, 0, 0, 0, 1, 1, 0, 2, 2, 0, 3, 2, 2);
    }

    private static void order(String what, int rule, int[] one, int[] two, boolean isSecond) {
        LaneLock x = chamber(20, 3, 1);
        x.set(4, rule);
        x.ship(0, one[0], one[1], one[2], one[3]);
        x.ship(1, two[0], two[1], two[2], two[3]);
        due(what + ", first", x.next(0, 0), isSecond ? 1 : 0);
        due(what + ", then", x.next(1, 0), isSecond ? 0 : 1);
    }

    private static int[] ship(int... of) {
        return of;
    }

    /** Like ones: that of lane 0; one more or less: that one. All else is against it. */
    private static void heads() {
        order("turns", 0, ship(SHIP, 9, 0, 0), ship(SHIP, 1, 9, 999000), false);
        order("of like rank", 1, ship(SHIP, 9, 4, 999), ship(SHIP, 1, 4, 999000), false);
        order("of greater rank", 1, ship(SHIP, 1, 4, 999000), ship(SHIP, 9, 5, 999), true);
        order("of less rank", 1, ship(SHIP, 9, 5, 999), ship(SHIP, 1, 4, 999000), false);
        order("10 and 9", 1, ship(SHIP, 1, 9, 0), ship(FERRY, 1, 0, 0), true);
        order("19 and 20", 1, ship(FERRY, 1, 9, 0), ship(PILOT, 1, 0, 0), true);
        order("of like span", 2, ship(BARGE, 3, 0, 999), ship(SHIP, 4, 9, 999000), false);
        order("of less span", 2, ship(SHIP, 4, 9, 999000), ship(PILOT, 4, 0, 999), true);
        order("of greater span", 2, ship(SHIP, 3, 0, 999), ship(FERRY, 4, 9, 999000), false);
        order("both of span 1", 2, ship(PILOT, 2, 0, 999), ship(PILOT, 1, 9, 999000), false);
        order("20 and 10", 2, ship(PAIR, 9, 9, 999000), ship(BARGE, 9, 0, 999), true);
        order("as old", 3, ship(SHIP, 9, 0, 7), ship(SHIP, 1, 9, 999007), false);
        order("older", 3, ship(SHIP, 1, 9, 999007), ship(SHIP, 9, 0, 6), true);
        order("not as old", 3, ship(SHIP, 9, 0, 7), ship(SHIP, 1, 9, 999008), false);
        order("0 and 999", 3, ship(SHIP, 1, 9, 999999), ship(SHIP, 9, 0, 0), true);
        order("as heavy", 4, ship(SHIP, 9, 0, 7999), ship(SHIP, 1, 9, 7000), false);
        order("heavier", 4, ship(SHIP, 1, 9, 7000), ship(SHIP, 9, 0, 8999), true);
        order("not as heavy", 4, ship(SHIP, 9, 0, 7999), ship(SHIP, 1, 9, 6000), false);
        order("0 and 999", 4, ship(SHIP, 1, 9, 0), ship(SHIP, 9, 0, 999999), true);
    }

    private static void turns() {
        LaneLock x = chamber(2, 1, 1);
        plain(x, 0, 1, 1, 1);
        plain(x, 1, 1, 1, 1);
        goes("lane 0, lane 1", x, 0, 0, 0, 3, 0, 1);
        x.fill();
        goes("lane 0 anew", x, 1, 0, 0, 4, 0, 1);
        x.set(0, 3);
        goes("lane 0, lane 1, lane 0", x, 1, 0, 0, 4, 0, 1, 2, 0, 2);
        x.fill();
        goes("lane 0 is empty", x, 5, 0, 0);
        LaneLock y = chamber(4, 1, 1);
        plain(y, 0, 2, 2, 1);
        plain(y, 1, 1, 2, 1);
        // 0 and 3; then lane 0's 1 does not fit, and neither does lane 1's 4: 2 and 5 would, but stand behind
        goes("both lanes are shut", y, 0, 0, 0, 3, 0, 2);
        LaneLock z = chamber(4, 1, 1);
        plain(z, 0, 5, 1);
        plain(z, 1, 1, 1);
        goes("lane 0 is shut from the first", z, 2, 0, 0, 3, 0, 1);
    }

    private static void tankers() {
        LaneLock x = chamber(10, 3, 1);
        x.ship(1, TANKER, 1, 0, 0);
        plain(x, 1, 1);
        goes("alone", x, 0, 0, 0);
        plain(x, 0, 1, 1);
        goes("it shuts its lane, and just that", x, 2, 0, 0, 3, 0, 1);
        x.set(4, 1);
        LaneLock y = chamber(4, 3, 1);
        y.ship(0, TANKER, 4, 9, 0);
        plain(y, 1, 1, 1);
        goes("too long, alone too", y, 1, 0, 0, 2, 0, 1);
        y.set(0, 5);
        goes("nobody behind it", y, 0, 0, 0);
        LaneLock z = new LaneLock();
        for (int k = 0; k < 10; k++) {
            z.ship(k % 2, TANKER, 1, 0, 0);
        }
        due("each alone", z.plan(0), 10);
        due("each alone, freely", z.freely(0), 10);
        due("lane 0's", z.freely(2), 1);
        due("none of lane 1 with it", z.freely(3), 0);
        due("each alone, as they come", z.day(2), 90);
    }

    private static void waters() {
        int[][] want = {{1, 1, 1, 0, 1}, {1, 1, 1, 1, 0}, {1, 1, 1, 2, 0}, {20, 3, 99, 0, 5940}, {20, 3, 99, 999, 4941},
            {10, 1, 99, 989, 1}, {10, 1, 99, 990, 0}, {10, 1, 99, 991, 0}};
        for (int[] of : want) {
            LaneLock x = chamber(of[0], of[1], of[2]);
            x.ship(0, SHIP, 1, 0, 1000 * of[3]);
            due("water", x.water(), of[4]);
            due("water of all", x.plan(2), of[4]);
            due("water, freely", x.freely(1), of[4]);
            x.fill();
            dues("water of the ledger", of[4], (int) x.spent(0), (int) x.spent(NONE));
            due("none more", x.water(), NO);
        }
        LaneLock x = chamber(20, 3, 99);
        for (int k = 0; k < 10; k++) {
            x.ship(0, SHIP, 1, 0, k < 6 ? 990000 : 0);
        }
        due("all that go in", x.water(), 0);
        LaneLock y = chamber(10, 1, 1);
        y.ship(0, SHIP, 9, 0, 3000);
        y.ship(0, SHIP, 9, 0, 5000);
        due("less the loads of those that go in, not of all", y.water(), 7);
    }

    // ---- 2: caps, as they come, freely

    private static void caps() {
        LaneLock x = new LaneLock();
        for (int day = 0; day < 100; day++) {
            due("nothing told", x.cap(day, day), NONE);
        }
        for (int day = 0; day < 200; day++) {
            due("may of " + day, x.may(day), Math.min(day, 99));
        }
        due("least", x.cap(99, 99999), 99);
        due("most", x.may(199), 99999);
        due("nothing any more", x.cap(99, NONE), 99999);
        due("that of the day ahead", x.may(99), 98);
        due("nothing is told", x.cap(99, NONE), NONE);
    }

    private static void droughts() {
        LaneLock x = chamber(20, 3, 99);
        x.cap(1, 0);
        for (int k = 0; k < 10; k++) {
            x.ship(0, TANKER, 1, 0, 0);
        }
        due("no bound ahead of the first", x.drought(), 0);
        x.cap(0, 59400);
        due("just all", x.drought(), 0);
        x.cap(0, 59399);
        due("one too much, and none behind", x.drought(), NONE);
        x.cap(1, 5939);
        due("one too little", x.drought(), NONE);
        x.cap(1, 5940);
        due("the next day", x.drought(), 1);
        x.cap(1, 0);
        x.cap(99, 5940);
        due("a much later one", x.drought(), 99);
        x.cap(0, 5940);
        due("one a day from day 99 on", x.drought(), 107);
        x.cap(0, 0);
        due("ten from day 99 on", x.drought(), 108);
        LaneLock y = chamber(10, 1, 1);
        plain(y, 0, 1);
        plain(y, 1, 2);
        plain(y, 0, 9, 9);
        plain(y, 1, 9, 9);
        y.cap(0, 9);
        y.cap(1, 10);
        due("nothing on the first day", y.drought(), 5);
        y.set(0, 5);
        due("some are stuck: the last of those that go", y.drought(), 0);
        y.set(1, 3);
        due("too much for the first day, and for all", y.drought(), NONE);
        y.cap(2, 15);
        due("enough on the third", y.drought(), 2);
        LaneLock z = chamber(1, 1, 1);
        for (int k = 0; k < 10; k++) {
            z.ship(0, SHIP, 1, 0, k == 9 ? 0 : 1000);
        }
        z.cap(0, 0);
        due("nine of no water, and one of some", z.drought(), NONE);
        z.cap(5, 1);
        due("that one on day 5", z.drought(), 5);
        z.leave(9);
        due("nine of no water", z.drought(), 0);
    }

    private static void asTheyCome() {
        LaneLock x = chamber(4, 1, 1);
        x.ship(0, SHIP, 9, 0, 5);
        x.ship(1, SHIP, 1, 0, 8);
        x.ship(0, SHIP, 1, 0, 5);
        x.ship(0, SHIP, 1, 0, 6);
        x.ship(0, SHIP, 1, 0, 4);
        // 4 at minute 4; then lane 0 has 0, which never goes in, ahead of 2 and 3; lane 1's begins at 14
        due("ahead of the long one, as it comes ahead", x.waits(4), 0);
        due("the long one", x.waits(0), NONE);
        due("of like ones as they stand: behind it", x.waits(2), NONE);
        due("behind it", x.waits(3), NONE);
        due("the other lane's, as the chamber is free", x.waits(1), 6);
        x.leave(4);
        due("the other lane's at once", x.waits(1), 0);
        due("one filling", x.day(1), 1);
        due("at 8", x.day(2), 8);
        x.leave(0);
        due("nobody ahead any more", x.waits(2), 0);
        due("the chamber is not free", x.waits(3), 9);
        due("the chamber is not free", x.waits(1), 7);
        LaneLock y = new LaneLock();
        y.ship(0, SHIP, 1, 0, 7);
        y.ship(1, SHIP, 1, 0, 16);
        due("a minute to wait", y.waits(1), 1);
        y.set(3, 9);
        due("free in that minute", y.waits(1), 0);
        y.set(3, 8);
        due("free ahead of it", y.waits(1), 0);
        due("as it comes", y.day(2), 16);
        y.set(3, 60);
        due("most minutes", y.waits(1), 51);
        y.set(3, 1);
        y.ship(0, SHIP, 1, 0, 17);
        due("least minutes", y.day(1), 3);
        due("nobody waits", y.day(0), 0);
        LaneLock z = chamber(1, 1, 1);
        z.ship(0, SHIP, 1, 0, 999);
        z.ship(1, SHIP, 1, 0, 999);
        z.ship(1, SHIP, 2, 0, 0);
        due("behind one that never goes in, by minutes", z.waits(1), NONE);
        due("the other lane's", z.waits(0), 0);
        due("just those that go in", z.line(1), NONE);
        z.leave(2);
        due("minutes behind 999", z.day(2), 1009);
        due("it", z.line(0), 1);
        due("of less wait", z.line(1), 0);
        z.fill();
        due("who is gone does not come", z.day(1), 1);
        due("who is gone is not in line", z.line(1), NONE);
    }

    /** By rules in the lanes as they come, not as they stand now. */
    private static void rulesAsTheyCome() {
        LaneLock x = chamber(1, 1, 1);
        x.set(4, 4);
        x.ship(0, SHIP, 1, 0, 1000);
        x.ship(1, SHIP, 1, 0, 9001);
        x.ship(0, SHIP, 1, 0, 5000);
        x.ship(1, SHIP, 1, 0, 7010);
        // 0 at 0, as just it is head of an open lane: 2 stands behind it; 1 at 10 (9 against 5), 3 at 20, 2 at 30
        int[] want = {0, 9, 30, 10};
        for (int k = 0; k < 4; k++) {
            due("heavy, ship " + k, x.waits(k), want[k]);
        }
        x.set(4, 0);
        // turns: each filling begins with lane 0: 0 at 0, 2 at 10, 1 at 20, 3 at 30
        int[] byTurns = {0, 19, 10, 20};
        for (int k = 0; k < 4; k++) {
            due("turns, ship " + k, x.waits(k), byTurns[k]);
        }
        int[] line = {3, 1, 2, 0};
        for (int k = 0; k < 4; k++) {
            due("line " + k, x.line(k), line[k]);
        }
    }

    private static void free(String what, LaneLock x, int... want) {
        for (int of = 0; of < 4; of++) {
            due(what + ", freely(" + of + ")", x.freely(of), want[of]);
        }
    }

    private static void freely() {
        LaneLock x = chamber(3, 3, 2);
        free("nobody waits", x, 0, 0, 0, 0);
        plain(x, 1, 3);
        free("one of lane 1", x, 1, 18, 0, 1);
        plain(x, 0, 3, 3);
        free("all in three rows", x, 1, 18, 2, 1);
        plain(x, 0, 3);
        free("lane 0's take all rows", x, 2, 36, 3, 0);
        x.bar(2, 1, true);
        free("the last row is barred", x, 2, 36, 2, 0);
        plain(x, 1, 1);
        free("the last row is good for one", x, 2, 36, 2, 0);
        plain(x, 0, 4);
        free("one is too long", x, NONE, NONE, NONE, NONE);
        x.set(0, 4);
        // five of 3 and 4 for two rows
        free("a place more", x, 3, 72, 2, 0);
        LaneLock y = chamber(1, 1, 1);
        plain(y, 1, 1, 1, 1, 1, 1, 1, 1, 1, 1, 1);
        free("ten of lane 1, one by one", y, 10, 10, 0, 1);
        y.set(0, 10);
        free("ten of lane 1", y, 1, 10, 0, 10);
        y.fill();
        free("all are gone", y, 0, 0, 0, 0);
        LaneLock z = chamber(2, 1, 1);
        plain(z, 0, 1, 2);
        plain(z, 1, 1, 2);
        free("one of each", z, 3, 6, 1, 1);
        z.set(4, 2);
        free("whatever the rule", z, 3, 6, 1, 1);
        z.leave(1);
        free("who left is not asked", z, 2, 4, 1, 1);
        LaneLock w = chamber(4, 1, 1);
        w.ship(1, TANKER, 1, 0, 0);
        plain(w, 0, 1);
        free("a tanker behind another does not fit", w, 2, 8, 1, 0);
    }

    // ---- 3: what was told, deeds, an image, sheets

    private static void tellings() {
        LaneLock x = chamber(1, 1, 1);
        plain(x, 0, 1, 1, 1, 1, 1, 1, 1, 1, 1);
        row(x, 0, BYTES, 1, 1, 1, 1, 1, 1, 1, 0);
        due("the eighth is otherwise", x.tells(0, 0, 0), 7);
        due("by no rule", x.tells(0, 0, 1), 0);
        due("by no kind", x.tells(0, 0, 2), 0);
        due("if the eighth is too long", x.tells(0, 7, 3), 1022 - 2);
        due("if the seventh is too long", x.tells(0, 6, 3), 0);
        due("if the eighth is too long by its kind", x.tells(0, 7, 2), 1 << BARGE | 1 << PAIR | 1 << TANKER);
        x.put(0, 7, 1);
        due("all eight", x.tells(0, 0, 0), NONE);
        due("by all rules", x.tells(0, 0, 1), 31);
        due("if it were not too long", x.tells(0, 7, 3), 2);
        due("what stands behind the eight does not matter", x.tells(0, 8, 3), 1022);
        row(x, 1, INTS, -1);
        due("below 0", x.tells(1, 0, 0), 0);
        row(x, 1, INTS, 1, MAX);
        due("most", x.tells(1, 0, 0), 1);
        row(x, 1, INTS, 257);
        due("ints as they are", x.tells(1, 0, 0), 0);
        row(x, 1, BYTES, 257);
        due("lowest 8 bits", x.tells(1, 0, 0), NONE);
        row(x, 1, BYTES, 255);
        due("eight bits that are no 1", x.tells(1, 0, 0), 0);
        LaneLock y = new LaneLock();
        row(y, 0, INTS, 0, 0, 0, 0, 0, 0, 0, 0);
        due("nobody waits: 0 for ever", y.tells(0, 0, 0), NONE);
        y.put(0, 7, 1);
        due("not 1", y.tells(0, 0, 0), 7);
        y.put(0, 0, MIN);
        due("the first that is otherwise", y.tells(0, 0, 0), 0);
        LaneLock z = chamber(20, 1, 1);
        z.ship(0, PAIR, 9, 0, 0);
        row(z, 0, INTS, 1);
        due("all kinds", z.tells(0, 0, 2), 63);
        due("all lengths", z.tells(0, 0, 3), 1022);
        z.set(0, 19);
        due("all kinds but a pair", z.tells(0, 0, 2), 63 - (1 << PAIR));
        due("all lengths but 9", z.tells(0, 0, 3), 1022 - (1 << 9));
        z.put(0, 0, 0);
        due("just a pair", z.tells(0, 0, 2), 1 << PAIR);
        due("just length 9", z.tells(0, 0, 3), 1 << 9);
    }

    /** Each rule tells another row of numbers, so that each bit stands for its own rule. */
    private static void rulesTold() {
        LaneLock x = chamber(6, 1, 1);
        x.ship(0, SHIP, 3, 9, 5009);
        x.ship(1, SHIP, 2, 0, 0);
        x.ship(0, SHIP, 2, 0, 9);
        x.ship(1, SHIP, 4, 1, 9009);
        x.ship(0, SHIP, 1, 0, 9);
        x.ship(1, SHIP, 1, 5, 9);
        for (int rule = 0; rule < 5; rule++) {
            x.set(4, rule);
            int n = x.film(0, 4);
            due("film", n, 4);
            due("as filmed", x.tells(0, 0, 0), NONE);
            int bits = x.tells(0, 0, 1);
            due("its own rule's bit", bits >> rule & 1, 1);
            for (int other = 0; other < 5; other++) {
                x.set(4, other);
                due("film of rule " + rule + " by rule " + other, x.tells(0, 0, 0) == NONE ? 1 : 0, bits >> other & 1);
            }
            due("no sixth rule", bits >> 5, 0);
        }
    }

    private static void deeds() {
        LaneLock x = chamber(1, 1, 3);
        plain(x, 0, 1, 1, 1, 1, 1);
        plain(x, 1, 1, 1, 1, 1, 1);
        due("none", x.count(8), 0);
        for (int k = 0; k < 7; k++) {
            due("deeds", x.count(8), Math.min(k, 6));
            due("leaves", x.leave(7 - k), 9 - k);
        }
        due("six at most", x.count(8), 6);
        for (int k = 5; k >= 0; k--) {
            due("undone", x.undo(), k);
            due("who left latest waits first", x.told(6 - k, 6), 0);
            due("the next one left still", x.told(7 - k, 6), 2);
        }
        due("none any more", x.undo(), STATE);
        int[] one = {0, 1, 2, 3, 4, NONE}, two = {5, 6, 8, 9, NONE, NONE};
        for (int i = 0; i < 6; i++) {
            due("lane 0", x.lane(0, i), one[i]);
            due("lane 1", x.lane(1, i), two[i]);
        }
        x.fill();
        x.set(2, 9);
        x.bar(0, 5, true);
        x.cap(7, 8);
        x.film(2, 3);
        x.image();
        due("undone", x.undo(), 0);
        due("fall stays", x.count(2), 9);
        due("a buoy stays", x.bar(0, 5, true), 1);
        due("a cap stays", x.may(7), 8);
        due("a sheet stays", x.put(2, 2, 1), 1);
        due("the ledger's goes", x.spent(0), NO);
        due("water as it is now", x.water(), 9);
        due("the image stays", x.back(), 10);
        due("the ledger as in the image", x.spent(0), 3);
        due("no deeds any more", x.count(8), 0);
    }

    /** Two deeds, and a chamber that is not as at first. */
    private static LaneLock twoDeeds() {
        LaneLock x = chamber(3, 3, 3);
        plain(x, 0, 3, 2, 1);
        plain(x, 1, 1, 4);
        x.fill();
        x.leave(4);
        return x;
    }

    private static void deedsStay() {
        LaneLock x = twoDeeds();
        int[] most = {20, 1, 99, 60, 4};
        for (int what = 0; what < 5; what++) {
            x.set(what, most[what]);
        }
        x.bar(1, 2, true);
        x.cap(3, 4);
        row(x, 0, INTS, 5, 6, 7, 8, 9);
        x.sheet(1, BYTES, 5);
        x.film(2, 2);
        x.copy(0, 0, 0, 1, 1);
        x.load(0, INTS, 0, 1);
        x.image();
        due("neither of what is set, told or kept ends a deed", x.count(8), 2);
        for (int k = 1; k >= 0; k--) {
            due("undone", x.undo(), k);
            for (int what = 0; what < 5; what++) {
                due("stays, count " + what, x.count(what), most[what]);
            }
            dues("stays", 1, x.bar(1, 2, true), x.put(0, 4, 1), x.put(1, 4, 1), x.put(2, 1, 1));
            due("a cap stays", x.may(3), 4);
            due("no ship goes", x.count(5), 5);
        }
        due("all wait", x.count(6), 5);
        due("the image stays", x.back(), 5);
        due("nobody waits in it", x.count(6), 0);
        LaneLock y = twoDeeds();
        due("there is no image", y.back(), STATE);
        due("that ends no deed", y.undo(), 1);
        due("it waits", y.lane(1, 0), 4);
        due("the other", y.undo(), 0);
        due("all wait", y.count(6), 5);
    }

    private static void noDeedsAnyMore() {
        LaneLock x = new LaneLock();
        plain(x, 0, 1, 1, 1);
        x.leave(1);
        x.ship(0, SHIP, 0, 0, 0);
        due("one that is refused", x.count(8), 1);
        x.ship(0, SHIP, 1, 0, 0);
        due("one that comes", x.count(8), 0);
        due("it can't be undone", x.undo(), STATE);
        due("who left has left", x.told(1, 6), 2);
        due("they stand as they came", x.lane(0, 2), 3);
        x.leave(2);
        row(x, 0, INTS, 0, SHIP, 0, 0, 0, 0, SHIP, 1, 0, 0);
        due("none of a load", x.load(0, 1, 0, 1), 0);
        due("none that comes by a load", x.count(8), 1);
        due("one of a load", x.load(0, 1, 5, 1), 1);
        due("one that comes by a load", x.count(8), 0);
        x.leave(0);
        due("outside, but one came", x.load(0, 1, 5, 2), OUTSIDE);
        due("it came", x.count(5), 6);
        due("one that comes by a load", x.count(8), 0);
        x.image();
        x.leave(3);
        x.back();
        due("laid back", x.undo(), STATE);
        due("it waits", x.told(3, 6), 0);
    }

    private static void images() {
        LaneLock x = new LaneLock();
        due("of nobody", x.image(), 0);
        x.ship(1, PAIR, 9, 9, 999999);
        x.ship(0, SHIP, 1, 1, 1);
        x.fill();
        due("nobody", x.back(), 0);
        dues("no ships", BAD, x.told(0, 0), x.told(1, 0), x.leave(0));
        dues("none in the lanes", NONE, x.lane(0, 0), x.lane(1, 0), x.next(0, 0));
        dues("none of the ledger", 0, x.count(7), (int) x.spent(NONE), x.count(6), x.count(8));
        due("from 0 again", x.ship(0, FERRY, 2, 3, 4005), 0);
        int[] told = {FERRY, 2, 3, 4, 5, 0, 0, 2, 13, NONE};
        for (int what = 0; what < 10; what++) {
            due("not what was of that number, told " + what, x.told(0, what), told[what]);
        }
        x.sheet(3, INTS, 2);
        x.image();
        x.sheet(3, -1, 0);
        x.sheet(2, BYTES, 1);
        due("one", x.back(), 1);
        due("sheets are not kept", x.put(3, 0, 1), -11);
        due("sheets are not kept", x.put(2, 0, 1), 1);
        for (int k = 1; k < 10; k++) {
            x.ship(k % 2, SHIP, 1, 0, 0);
        }
        due("ten", x.count(5), 10);
        due("one again", x.back(), 1);
        for (int k = 1; k < 10; k++) {
            due("room for nine more", x.ship(1, SHIP, 1, 0, 0), k);
        }
        due("and no more", x.ship(1, SHIP, 1, 0, 0), FULL);
    }

    private static void sheets() {
        LaneLock x = new LaneLock();
        for (int sort = 0; sort < 2; sort++) {
            x.sheet(0, sort, 40);
            x.sheet(1, sort, 40);
            due("the whole", x.copy(0, 0, 1, 0, 40), 40);
            due("onto itself", x.copy(0, 0, 0, 0, 40), 40);
            due("more than the whole", x.copy(0, 0, 1, 0, 41), OUTSIDE);
            due("the last", x.copy(0, 39, 1, 39, 1), 1);
            due("none behind the last", x.copy(0, 40, 1, 40, 0), 0);
            due("one behind the last", x.copy(0, 40, 1, 0, 1), OUTSIDE);
            due("over the end of the other", x.copy(0, 0, 1, 39, 2), OUTSIDE);
            x.sheet(1, sort, 0);
            due("none of none", x.copy(1, 0, 1, 0, 0), 0);
            due("none of none", x.load(1, sort, 0, 0), 0);
            due("one of none", x.load(1, sort, 0, 1), OUTSIDE);
            for (int i = 0; i < 40; i++) {
                x.put(0, i, 1);
            }
            x.sheet(0, sort, 40);
            due("all 0 anew: no ships", x.load(0, sort, 0, 8), 0);
        }
        int[] low = {0, 256, 65536, MIN, -256};
        for (int v : low) {
            row(x, 2, BYTES, v, v, 1 + v, v, v);
            due("lowest 8 bits of " + v, x.load(2, BYTES, 0, 1), 1);
        }
        due("lane", x.told(0, 5), 0);
        due("length", x.told(4, 1), 1);
        row(x, 2, BYTES, 0, 0, 1, 0, MAX);
        due("eight bits below 0", x.load(2, BYTES, 0, 1), 0);
    }

    private static void loads() {
        LaneLock x = new LaneLock();
        x.sheet(0, INTS, 40);
        for (int k = 0; k < 8; k++) {
            x.put(0, 5 * k, k % 2);
            x.put(0, 5 * k + 1, k % 6);
            x.put(0, 5 * k + 2, k + 1);
            x.put(0, 5 * k + 3, 9 - k);
            x.put(0, 5 * k + 4, 1000 * k + 999);
        }
        x.image();
        due("all of the sheet", x.load(0, INTS, 0, 8), 8);
        for (int k = 0; k < 8; k++) {
            int[] told = {k % 6, k + 1, 9 - k, k, 999, k % 2};
            for (int what = 0; what < 6; what++) {
                due("ship " + k + ", told " + what, x.told(k, what), told[what]);
            }
        }
        x.back();
        due("one more than the sheet", x.load(0, INTS, 0, 9), OUTSIDE);
        due("what stood ahead came", x.count(5), 8);
        x.back();
        due("the last of the sheet", x.load(0, INTS, 35, 1), 1);
        due("it", x.told(0, 1), 8);
        due("the last, and one more", x.load(0, INTS, 35, 2), OUTSIDE);
        due("the last again", x.count(5), 2);
        due("over the end", x.load(0, INTS, 36, 1), OUTSIDE);
        due("nobody", x.count(5), 2);
        due("ten of them", x.load(0, INTS, 0, 10), OUTSIDE);
        due("eight", x.count(5), 10);
        due("all others are left out", x.load(0, INTS, 0, 8), 0);
        x.back();
        x.put(0, 7, 0);
        x.put(0, 15, 2);
        due("two are left out", x.load(0, INTS, 0, 8), 6);
        due("the third is the second", x.told(1, 1), 3);
        due("the fifth is the third", x.told(2, 1), 5);
    }

    /** An item of a sheet of bytes, 0 or more: read as the minute at which a ship comes; all is laid back. */
    private static int item(LaneLock x, int sheet, int i) {
        int spare = (sheet + 1) % 4;
        row(x, spare, BYTES, 0, SHIP, 1, 0, 0);
        x.copy(sheet, i, spare, 4, 1);
        x.image();
        x.load(spare, BYTES, 0, 1);
        int item = x.told(x.count(5) - 1, 4);
        x.back();
        return item;
    }

    private static void films() {
        LaneLock x = chamber(1, 1, 1);
        plain(x, 0, 1, 1, 1, 1, 1, 1, 1, 1, 1);
        due("most", x.film(0, 8), 8);
        due("as filmed", x.tells(0, 0, 0), NONE);
        due("the first item", item(x, 0, 0), 1);
        due("the eighth item", item(x, 0, 7), 1);
        due("no ninth", x.put(0, 8, 0), OUTSIDE);
        due("least", x.film(0, 0), 0);
        due("no item", x.put(0, 0, 0), OUTSIDE);
        due("told of none", x.tells(0, 0, 0), NONE);
        x.set(0, 9);
        due("all nine at once", x.film(0, 3), 3);
        due("nine", item(x, 0, 0), 9);
        due("behind the last one 0", item(x, 0, 1), 0);
        due("behind the last one 0", item(x, 0, 2), 0);
        due("just in thought", x.count(6), 9);
        due("the sheet was missing", new LaneLock().film(3, 8), 8);
    }

    public static void main(String[] args) {
        theTenthShip();
        theTenthGoesAndComesBack();
        spansAndRanks();
        everyPlaceOfEveryRow();
        runs();
        heads();
        turns();
        tankers();
        waters();
        caps();
        droughts();
        asTheyCome();
        rulesAsTheyCome();
        freely();
        tellings();
        rulesTold();
        deeds();
        deedsStay();
        noDeedsAnyMore();
        images();
        sheets();
        loads();
        films();
        end("all edges");
    }
}
