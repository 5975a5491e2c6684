/** Each promise of the document by itself: ordinary inputs, the edges that it names, wrong inputs. */
public final class PromisesTest extends Checks {
    /** Who goes in by the next filling, one behind the other, as digits of a number behind a 1. */
    private static int goers(LaneLock x) {
        int digits = 1;
        for (int k = 0; x.next(k, 0) != NONE && k < 10; k++) {
            digits = digits * 10 + x.next(k, 0);
        }
        return digits;
    }

    private static void constants() {
        due("NONE", LaneLock.NONE, -1);
        due("BAD", LaneLock.BAD, -2);
        due("STATE", LaneLock.STATE, -3);
        due("FULL", LaneLock.FULL, -4);
        due("NO", LaneLock.NO, Long.MIN_VALUE);
    }

    private static void promise1() {
        LaneLock x = new LaneLock();
        int[] counts = {10, 2, 5, 10, 0, 0, 0, 0, 0, 20};
        for (int what = 0; what < counts.length; what++) {
            due("count(" + what + ")", x.count(what), counts[what]);
        }
        dues("no ship", BAD, x.told(0, 0), x.taken(0, 0), x.leave(0), x.waits(0));
        dues("nobody", NONE, x.lane(0, 0), x.lane(1, 0), x.next(0, 0), x.line(0), x.day(2), x.drought());
        dues("nothing", 0, x.plan(0), x.plan(1), x.plan(2), x.day(0), x.day(1));
        dues("nobody to choose of", 0, x.freely(0), x.freely(1), x.freely(2), x.freely(3));
        dues("nothing to do", STATE, x.fill(), x.undo(), x.back());
        dues("no cap", NONE, x.may(0), x.may(99), x.may(199));
        due("water", x.water(), NO);
        due("spent(0)", x.spent(0), NO);
        due("spent(-1)", x.spent(-1), 0);
        for (int sheet = 0; sheet < 4; sheet++) {
            due("sheet " + sheet, x.put(sheet, 0, 1), MISSING);
        }
        for (int place = 0; place < 20; place++) {
            dues("not barred", 0, x.bar(0, place, false), x.bar(1, place, false), x.bar(2, place, false));
        }
        LaneLock other = new LaneLock();
        plain(other, 0, 1);
        due("another one's ship", x.count(5), 0);
    }

    private static void promise2() {
        LaneLock x = new LaneLock();
        due("first", x.ship(1, PAIR, 9, 9, 999999), 0);
        dues("as it came", 999, x.told(0, 3), x.told(0, 4));
        due("least", x.ship(0, SHIP, 1, 0, 0), 1);
        dues("least", 0, x.told(1, 0), x.told(1, 2), x.told(1, 3), x.told(1, 4), x.told(1, 5), x.told(1, 6));
        dues("lane", BAD, x.ship(-1, 0, 1, 0, 0), x.ship(2, 0, 1, 0, 0), x.ship(MIN, 0, 1, 0, 0));
        dues("kind", BAD, x.ship(0, -1, 1, 0, 0), x.ship(0, 6, 1, 0, 0), x.ship(0, MAX, 1, 0, 0));
        dues("length", BAD, x.ship(0, 0, 0, 0, 0), x.ship(0, 0, 10, 0, 0), x.ship(0, 0, -3, 0, 0));
        dues("first", BAD, x.ship(0, 0, 1, -1, 0), x.ship(0, 0, 1, 10, 0));
        dues("load", BAD, x.ship(0, 0, 1, 0, -1), x.ship(0, 0, 1, 0, 1000000), x.ship(0, 0, 1, 0, MIN), x.ship(0, 0, 1, 0, MAX));
        due("refused ones are none", x.count(5), 2);
        due("behind", x.ship(0, TANKER, 5, 3, 7008), 2);
        dues("in lane", 1, x.lane(0, 0));
        dues("in lane", 2, x.lane(0, 1));
        dues("seven", 7, x.told(2, 3));
        dues("eight", 8, x.told(2, 4));
        for (int ship = 3; ship < 10; ship++) {
            due("number", x.ship(1, SHIP, 1, 0, 0), ship);
        }
        due("eleventh", x.ship(0, SHIP, 1, 0, 0), FULL);
        due("bad ahead of full", x.ship(0, SHIP, 0, 0, 0), BAD);
        x.leave(3);
        due("who left is a ship", x.ship(0, SHIP, 1, 0, 0), FULL);
        due("full ends no deed", x.count(8), 1);
        LaneLock y = new LaneLock();
        plain(y, 0, 1);
        y.fill();
        y.ship(0, 0, 0, 0, 0);
        due("a refused one ends no deed", y.count(8), 1);
        plain(y, 0, 1);
        due("one that comes ends deeds", y.count(8), 0);
        due("nothing to undo", y.undo(), STATE);
        due("who is gone stays so", y.told(0, 6), 1);
    }

    private static void promise3() {
        LaneLock x = new LaneLock();
        int[] first = {10, 2, 5, 10, 0}, least = {1, 1, 1, 1, 0}, most = {20, 3, 99, 60, 4};
        for (int what = 0; what < 5; what++) {
            due("was at first " + what, x.set(what, most[what]), first[what]);
            due("was most " + what, x.set(what, least[what]), most[what]);
            dues("too little, too much " + what, BAD, x.set(what, least[what] - 1), x.set(what, most[what] + 1), x.set(what, MIN), x.set(what, MAX));
            due("was least " + what, x.set(what, first[what]), least[what]);
        }
        dues("what", BAD, x.set(-1, 1), x.set(5, 1), x.set(MIN, 1), x.set(MAX, 1));
        LaneLock y = new LaneLock();
        plain(y, 0, 1);
        y.leave(0);
        y.set(0, 4);
        due("deeds stay", y.count(8), 1);
    }

    private static void promise4() {
        LaneLock x = new LaneLock();
        due("was not", x.bar(0, 0, true), 0);
        due("was", x.bar(0, 0, true), 1);
        due("was", x.bar(0, 0, false), 1);
        due("is not", x.bar(0, 0, false), 0);
        due("last", x.bar(2, 19, true), 0);
        due("last", x.bar(2, 19, true), 1);
        due("another row", x.bar(1, 19, false), 0);
        due("another place", x.bar(2, 18, false), 0);
        dues("row", BAD, x.bar(-1, 0, true), x.bar(3, 0, true), x.bar(MIN, 0, true), x.bar(MAX, 0, true));
        dues("place", BAD, x.bar(0, -1, true), x.bar(0, 20, true), x.bar(0, MIN, true), x.bar(0, MAX, true));
        plain(x, 0, 3);
        x.bar(0, 2, true);
        due("runs from behind the buoy", x.next(0, 2), 3);
        x.bar(0, 6, true);
        due("just long enough", x.next(0, 2), 3);
        x.bar(0, 5, true);
        due("next run", x.next(0, 2), 7);
        x.bar(0, 8, true);
        due("next row", x.next(0, 1), 1);
        due("next row's first", x.next(0, 2), 0);
        x.set(1, 1);
        due("no more rows", x.next(0, 0), NONE);
        x.set(0, 12);
        due("a longer chamber", x.next(0, 2), 9);
    }

    private static void promise5() {
        LaneLock x = new LaneLock();
        due("nothing told", x.cap(0, 0), NONE);
        due("0 is a cap", x.cap(0, 99999), 0);
        due("most", x.cap(0, NONE), 99999);
        due("nothing any more", x.cap(0, 5), NONE);
        due("last day", x.cap(99, 7), NONE);
        due("last day", x.cap(99, 8), 7);
        due("told of that day alone", x.cap(50, NONE), NONE);
        dues("day", BAD, x.cap(-1, 1), x.cap(100, 1), x.cap(MIN, 1), x.cap(MAX, 1));
        dues("cap", BAD, x.cap(0, -2), x.cap(0, 100000), x.cap(0, MIN), x.cap(0, MAX));
        due("refused ones change nothing", x.cap(0, NONE), 5);
    }

    private static void promise6() {
        LaneLock x = new LaneLock();
        x.cap(3, 40);
        x.cap(10, 0);
        x.cap(99, 7);
        dues("ahead of the first", NONE, x.may(0), x.may(2));
        dues("from it on", 40, x.may(3), x.may(4), x.may(9));
        dues("the next", 0, x.may(10), x.may(98));
        dues("behind the last", 7, x.may(99), x.may(100), x.may(199));
        dues("day", BAD, x.may(-1), x.may(200), x.may(MIN), x.may(MAX));
        x.cap(10, NONE);
        dues("the one ahead holds again", 40, x.may(10), x.may(98));
        x.cap(3, NONE);
        dues("none ahead", NONE, x.may(3), x.may(98));
    }

    private static void promise7() {
        LaneLock x = new LaneLock();
        int[] spans = {5, 6, 12, 5, 4, 6}, ranks = {3, 3, 3, 13, 26, 3};
        for (int kind = 0; kind < 6; kind++) {
            x.ship(kind % 2, kind, 5, 3, 1000 * kind + 40 + kind);
            int[] want = {kind, 5, 3, kind, 40 + kind, kind % 2, 0, spans[kind], ranks[kind], NONE};
            for (int what = 0; what < 10; what++) {
                due("told(" + kind + ", " + what + ")", x.told(kind, what), want[what]);
            }
        }
        x.ship(0, PILOT, 1, 0, 0);
        due("a pilot's span is 1 at least", x.told(6, 7), 1);
        due("a pilot's rank", x.told(6, 8), 20);
        x.ship(0, PILOT, 2, 9, 0);
        due("a pilot's span", x.told(7, 7), 1);
        due("a pilot's rank", x.told(7, 8), 38);
        x.ship(0, PAIR, 9, 9, 0);
        due("a pair's span", x.told(8, 7), 20);
        dues("ship", BAD, x.told(9, 0), x.told(-1, 0), x.told(10, 0), x.told(MIN, 0), x.told(MAX, 0));
        dues("what", BAD, x.told(0, -1), x.told(0, 10), x.told(0, MIN), x.told(0, MAX));
        LaneLock y = chamber(4, 1, 1);
        plain(y, 0, 4);
        plain(y, 0, 4);
        plain(y, 0, 4);
        plain(y, 0, 4);
        y.fill();
        y.leave(2);
        y.fill();
        dues("gone", 1, y.told(0, 6), y.told(1, 6));
        due("left", y.told(2, 6), 2);
        due("waits", y.told(3, 6), 0);
        due("by the first", y.told(0, 9), 0);
        due("by the second", y.told(1, 9), 1);
        dues("by none", NONE, y.told(2, 9), y.told(3, 9));
        y.undo();
        due("not any more", y.told(1, 9), NONE);
        due("waits again", y.told(1, 6), 0);
        due("the first still is", y.told(0, 9), 0);
        y.undo();
        y.undo();
        due("the very first too", y.told(0, 9), NONE);
    }

    private static void promise8() {
        LaneLock x = new LaneLock();
        plain(x, 0, 1);
        plain(x, 1, 1);
        plain(x, 0, 1);
        plain(x, 0, 1);
        due("head", x.lane(0, 0), 0);
        due("next", x.lane(0, 1), 2);
        due("last", x.lane(0, 2), 3);
        due("other lane", x.lane(1, 0), 1);
        dues("no i-th", NONE, x.lane(0, 3), x.lane(1, 1), x.lane(0, -1), x.lane(1, MIN), x.lane(0, MAX));
        dues("lane", BAD, x.lane(-1, 0), x.lane(2, 0), x.lane(MIN, -1), x.lane(MAX, 0));
        x.leave(2);
        due("they close up", x.lane(0, 1), 3);
        due("one less", x.lane(0, 2), NONE);
    }

    private static void promise9() {
        LaneLock x = chamber(7, 3, 9);
        x.set(3, 44);
        x.set(4, 3);
        plain(x, 0, 7);
        plain(x, 1, 7);
        plain(x, 1, 7);
        plain(x, 1, 7);
        plain(x, 1, 7);
        x.fill();
        x.leave(4);
        int[] want = {7, 3, 9, 44, 3, 5, 1, 1, 2, 21};
        for (int what = 0; what < 10; what++) {
            due("count(" + what + ")", x.count(what), want[what]);
        }
        x.bar(0, 6, true);
        x.bar(0, 7, true);
        x.bar(2, 0, true);
        due("barred within", x.count(9), 19);
        x.set(1, 2);
        due("rows that are", x.count(9), 13);
        x.set(0, 8);
        due("places that are", x.count(9), 14);
        x.set(0, 20);
        x.set(1, 3);
        due("most", x.count(9), 57);
        dues("what", BAD, x.count(-1), x.count(10), x.count(MIN), x.count(MAX));
    }

    private static void promise10() {
        LaneLock x = new LaneLock();
        boolean[][] under = {
            {true, false, false, false, false, false},
            {true, true, false, false, false, false},
            {true, true, true, false, false, false},
            {true, false, false, true, false, false},
            {true, false, false, true, true, false},
            {true, true, false, false, false, true}};
        for (int kind = 0; kind < 6; kind++) {
            x.ship(0, kind, kind + 2, 0, 0);
            for (int k = 0; k < 6; k++) {
                due("taken(" + kind + ", " + k + ")", x.taken(kind, k), under[kind][k] ? kind + 2 : UNLIKE);
            }
        }
        dues("ship", BAD, x.taken(6, 0), x.taken(-1, 0), x.taken(MIN, 0), x.taken(MAX, 0));
        dues("kind", BAD, x.taken(0, -1), x.taken(0, 6), x.taken(0, MIN), x.taken(0, MAX));
        x.leave(2);
        due("one that left", x.taken(2, BARGE), 4);
    }

    private static void promise11() {
        LaneLock x = chamber(10, 1, 3);
        x.ship(0, SHIP, 4, 0, 7000);
        x.ship(1, SHIP, 4, 0, 6000);
        x.ship(0, SHIP, 4, 0, 0);
        x.ship(1, SHIP, 2, 0, 0);
        // turns: 0, 1, then lane 0's 2 does not fit and 3 does
        due("goes in", x.fill(), 3);
        dues("gone", 1, x.told(0, 6), x.told(1, 6), x.told(3, 6));
        due("waits", x.told(2, 6), 0);
        due("ledger", x.spent(0), 17);
        due("goes in", x.fill(), 1);
        due("ledger", x.spent(1), 30);
        due("all gone", x.fill(), STATE);
        due("no more of the ledger", x.count(7), 2);
        LaneLock y = chamber(3, 1, 1);
        plain(y, 0, 4);
        due("nobody would", y.fill(), STATE);
        due("nothing done", y.count(8), 0);
        LaneLock z = new LaneLock();
        z.ship(0, TANKER, 1, 0, 0);
        plain(z, 0, 1);
        z.ship(1, TANKER, 1, 0, 0);
        due("a tanker alone", z.fill(), 1);
        due("turns anew: lane 0 ahead, then no tanker", z.fill(), 1);
        due("gone", z.told(1, 6), 1);
        due("the other tanker", z.fill(), 1);
        LaneLock w = new LaneLock();
        w.ship(0, PAIR, 9, 0, 0);
        for (int k = 0; k < 9; k++) {
            plain(w, 1, 1);
        }
        due("nine by a shut lane", w.fill(), 9);
        LaneLock v = new LaneLock();
        for (int k = 0; k < 10; k++) {
            plain(v, k % 2, 1);
        }
        due("all ten", v.fill(), 10);
        due("all ten", v.count(6), 0);
    }

    private static void rules() {
        LaneLock x = new LaneLock();
        // lane 0: 0, 2, 4; lane 1: 1, 3, 5; all go in, so the order tells the rule
        x.ship(0, SHIP, 2, 5, 10020);
        x.ship(1, SHIP, 1, 5, 10020);
        x.ship(0, FERRY, 1, 0, 30005);
        x.ship(1, PILOT, 3, 0, 20030);
        x.ship(0, SHIP, 3, 1, 5001);
        x.ship(1, BARGE, 1, 9, 40000);
        due("turns", goers(x), 1012345);
        x.set(4, 1);
        // ranks 5 5, 10 20, 1 9; of like ones lane 0
        due("ranked", goers(x), 1021354);
        x.set(4, 2);
        // spans 2 1, 1 2, 3 2
        due("short", goers(x), 1102354);
        x.set(4, 3);
        // comes 20 20, 5 30, 1 0
        due("old", goers(x), 1024135);
        x.set(4, 4);
        // loads 10 10, 30 20, 5 40
        due("heavy", goers(x), 1021354);
        x.set(4, 0);
        LaneLock y = new LaneLock();
        plain(y, 1, 1);
        plain(y, 0, 1);
        plain(y, 0, 1);
        due("lane 0 ahead at first", goers(y), 1102);
        LaneLock z = chamber(4, 1, 1);
        plain(z, 0, 3);
        plain(z, 1, 2);
        plain(z, 0, 1);
        plain(z, 1, 1);
        due("a shut lane stays so for this filling", goers(z), 102);
        z.fill();
        due("and is open for the next", goers(z), 113);
    }

    private static void promise12() {
        rules();
        LaneLock x = new LaneLock();
        x.bar(0, 1, true);
        plain(x, 0, 6);
        plain(x, 1, 9);
        plain(x, 0, 1);
        plain(x, 1, 1);
        int[][] want = {{0, 0, 2}, {1, 1, 0}, {2, 0, 0}, {3, 0, 8}};
        for (int k = 0; k < 4; k++) {
            for (int what = 0; what < 3; what++) {
                due("next(" + k + ", " + what + ")", x.next(k, what), want[k][what]);
            }
        }
        dues("nobody", NONE, x.next(4, 0), x.next(4, 1), x.next(4, 2), x.next(10, 0), x.next(MAX, 2));
        dues("k", BAD, x.next(-1, 0), x.next(MIN, 2));
        dues("what", BAD, x.next(0, -1), x.next(0, 3), x.next(9, 3), x.next(0, MIN), x.next(0, MAX));
        due("just in thought", x.count(6), 4);
        LaneLock y = chamber(20, 1, 1);
        y.ship(0, PAIR, 9, 0, 0);
        due("the whole row", goers(y), 10);
        y.set(0, 19);
        due("too long", goers(y), 1);
        LaneLock z = new LaneLock();
        z.ship(0, TANKER, 9, 0, 0);
        plain(z, 1, 1);
        due("a tanker, and nobody else", goers(z), 10);
        LaneLock w = new LaneLock();
        plain(w, 0, 1);
        w.ship(1, TANKER, 1, 0, 0);
        plain(w, 0, 1);
        due("a tanker shuts its lane", goers(w), 102);
    }

    private static void promise13() {
        LaneLock x = new LaneLock();
        due("nobody", x.water(), NO);
        x.ship(0, SHIP, 5, 0, 30000);
        x.ship(1, SHIP, 5, 0, 20000);
        due("less the loads", x.water(), 50);
        x.set(2, 99);
        x.set(0, 20);
        x.set(1, 3);
        due("most", x.water(), 5890);
        x.set(2, 1);
        due("just", x.water(), 10);
        x.set(0, 16);
        due("0 at least", x.water(), 0);
        due("that is a number", x.fill(), 2);
        LaneLock y = chamber(3, 1, 1);
        plain(y, 0, 9);
        due("nobody would", y.water(), NO);
        y.set(0, 9);
        due("somebody would", y.water(), 9);
    }

    private static void promise14() {
        LaneLock x = chamber(10, 2, 5);
        due("none", x.spent(-1), 0);
        x.ship(0, TANKER, 5, 0, 30000);
        x.ship(0, TANKER, 5, 0, 999000);
        x.ship(0, TANKER, 5, 0, 0);
        x.fill();
        x.fill();
        x.set(2, 6);
        x.fill();
        due("0", x.spent(0), 70);
        due("1", x.spent(1), 0);
        due("as it was then", x.spent(2), 120);
        due("together", x.spent(-1), 190);
        due("behind the last", x.spent(3), NO);
        due("below", x.spent(-2), NO);
        due("MIN", x.spent(MIN), NO);
        due("MAX", x.spent(MAX), NO);
        x.undo();
        due("what the ledger had of it goes", x.spent(2), NO);
        due("together", x.spent(-1), 70);
    }

    private static void promise15() {
        LaneLock x = new LaneLock();
        plain(x, 0, 1);
        plain(x, 0, 1);
        plain(x, 1, 1);
        plain(x, 0, 1);
        due("how many still", x.leave(1), 3);
        due("behind it", x.lane(0, 1), 3);
        due("twice", x.leave(1), STATE);
        dues("no such", BAD, x.leave(4), x.leave(-1), x.leave(MIN), x.leave(MAX));
        x.fill();
        due("gone", x.leave(0), STATE);
        LaneLock y = new LaneLock();
        plain(y, 1, 1);
        due("the last one", y.leave(0), 0);
    }

    private static void promise16() {
        LaneLock x = chamber(1, 1, 5);
        for (int k = 0; k < 10; k++) {
            x.ship(k % 2, SHIP, 1, 0, 0);
        }
        x.leave(0);
        x.fill();
        x.fill();
        x.leave(8);
        x.leave(6);
        due("five", x.count(8), 5);
        x.fill();
        due("six", x.count(8), 6);
        x.fill();
        due("six at most", x.count(8), 6);
        // 2 and 4 went from lane 0, and, as nobody waits there any more, 1 and 3 from lane 1
        due("in all", x.count(7), 4);
        x.set(0, 2);
        x.cap(3, 9);
        due("undone", x.undo(), 5);
        due("undone", x.undo(), 4);
        due("ledger", x.count(7), 2);
        due("all else stays", x.count(0), 2);
        due("all else stays", x.may(3), 9);
        due("undone", x.undo(), 3);
        due("back in its place", x.told(6, 6), 0);
        due("back in its place", x.lane(0, 0), 6);
        due("undone", x.undo(), 2);
        due("undone", x.undo(), 1);
        due("undone", x.undo(), 0);
        due("the seventh latest stays", x.undo(), STATE);
        due("it left", x.told(0, 6), 2);
        due("none of the ledger", x.count(7), 0);
        int[] lane0 = {2, 4, 6, 8}, lane1 = {1, 3, 5, 7, 9};
        for (int i = 0; i < 4; i++) {
            due("lane 0", x.lane(0, i), lane0[i]);
        }
        for (int i = 0; i < 5; i++) {
            due("lane 1", x.lane(1, i), lane1[i]);
        }
        x.leave(6);
        due("a deed anew", x.undo(), 0);
        x.fill();
        x.undo();
        x.leave(2);
        due("who left when a filling was undone has left", x.told(2, 6), 2);
        x.fill();
        x.undo();
        x.undo();
        due("and is no filling", x.count(7), 0);
        x.image();
        x.leave(6);
        due("an image kept ends none", x.count(8), 1);
        x.back();
        due("laid back ends all", x.undo(), STATE);
    }

    private static void promise17() {
        LaneLock x = chamber(10, 1, 2);
        x.ship(0, SHIP, 6, 0, 3000);
        x.ship(0, SHIP, 6, 0, 30000);
        x.ship(0, PAIR, 5, 0, 0);
        x.ship(0, SHIP, 1, 0, 0);
        x.ship(1, SHIP, 5, 0, 0);
        x.ship(1, SHIP, 5, 0, 0);
        // 0; then 4, and 5; 1 and so on: lanes 0 | 4, then 1 | 4 by turns
        due("fillings", x.plan(0), 3);
        due("stuck", x.plan(1), 0b1100);
        due("water", x.plan(2), 37);
        dues("what", BAD, x.plan(-1), x.plan(3), x.plan(MIN), x.plan(MAX));
        due("just in thought", x.count(6), 6);
        x.set(0, 12);
        due("nobody stuck", x.plan(1), 0);
        x.leave(3);
        due("who left is not stuck", x.plan(1), 0);
        x.set(0, 1);
        due("all that wait", x.plan(1), 0b110111);
        dues("nobody", 0, x.plan(0), x.plan(2));
        LaneLock y = chamber(1, 1, 3);
        for (int k = 0; k < 10; k++) {
            plain(y, k % 2, 1);
        }
        due("ten", y.plan(0), 10);
        due("water of ten", y.plan(2), 30);
        due("nobody stuck", y.plan(1), 0);
    }

    private static void promise18() {
        LaneLock x = chamber(10, 1, 1);
        due("none is done", x.drought(), NONE);
        for (int k = 0; k < 5; k++) {
            plain(x, 0, 9);
        }
        due("no bound", x.drought(), 0);
        x.cap(0, 20);
        due("two a day", x.drought(), 2);
        x.cap(0, 19);
        due("one a day", x.drought(), 4);
        x.cap(1, 9);
        due("never", x.drought(), NONE);
        x.cap(3, 40);
        due("on the first day and from the third on", x.drought(), 3);
        x.cap(3, 10);
        due("3, 4, 5, 6 and the first", x.drought(), 6);
        x.cap(0, 0);
        x.cap(1, NONE);
        x.cap(3, NONE);
        x.cap(99, 50);
        due("all on the last that tells", x.drought(), 99);
        x.cap(99, 9);
        due("a day's fill is too much", x.drought(), NONE);
        LaneLock y = chamber(10, 1, 1);
        y.cap(0, 0);
        plain(y, 0, 9);
        due("not by day 199", y.drought(), NONE);
        y.ship(1, SHIP, 1, 0, 10000);
        due("no water at all", y.drought(), 0);
        LaneLock z = chamber(1, 1, 5);
        plain(z, 0, 9);
        due("nobody goes in", z.drought(), NONE);
        due("just in thought", z.count(6), 1);
        LaneLock w = chamber(10, 1, 1);
        w.cap(0, 15);
        w.cap(99, 10);
        for (int k = 0; k < 10; k++) {
            w.ship(0, SHIP, 9, 0, k < 9 ? 0 : 1000);
        }
        due("ten days", w.drought(), 9);
        w.cap(0, 9);
        due("from day 99 on, the last on day 108", w.drought(), 108);
    }

    private static void promise19() {
        LaneLock x = chamber(4, 1, 1);
        x.set(3, 20);
        x.ship(0, SHIP, 2, 0, 30);
        x.ship(0, SHIP, 2, 0, 5);
        x.ship(1, SHIP, 3, 0, 5);
        x.ship(1, SHIP, 2, 0, 999);
        x.ship(0, SHIP, 9, 0, 6);
        // minute 5: lane 0 has 1, lane 1 has 2: just 1 goes in; at 25: 2 (4 is too long for ever), and 0 stands behind 4
        due("at once", x.waits(1), 0);
        due("till the chamber is free", x.waits(2), 20);
        due("behind one that never goes in", x.waits(0), NONE);
        due("never", x.waits(4), NONE);
        due("as it comes", x.waits(3), 0);
        x.leave(4);
        due("no one ahead any more", x.waits(0), 15);
        due("left", x.waits(4), STATE);
        dues("no such", BAD, x.waits(5), x.waits(-1), x.waits(MIN), x.waits(MAX));
        x.fill();
        due("gone", x.waits(0), STATE);
        LaneLock y = chamber(4, 1, 1);
        y.ship(0, SHIP, 4, 0, 1);
        y.ship(0, SHIP, 4, 0, 0);
        y.ship(0, SHIP, 4, 0, 0);
        y.set(3, 1);
        due("of like ones as they stand", y.waits(1), 0);
        due("of like ones as they stand", y.waits(2), 1);
        due("who comes later goes later", y.waits(0), 1);
        y.set(3, 60);
        due("an hour", y.waits(2), 60);
        due("two hours", y.waits(0), 119);
        LaneLock z = new LaneLock();
        z.ship(0, SHIP, 1, 0, 7);
        z.ship(1, SHIP, 1, 0, 7);
        z.ship(1, SHIP, 1, 0, 17);
        z.ship(1, SHIP, 1, 0, 8);
        dues("all of that minute have come", 0, z.waits(0), z.waits(1), z.waits(2));
        due("free ten minutes behind the begin", z.waits(3), 9);
        LaneLock w = new LaneLock();
        w.ship(1, SHIP, 1, 0, 999);
        due("one, in the last minute", w.waits(0), 0);
        w.set(4, 3);
        w.ship(0, SHIP, 1, 0, 998);
        due("the first begins ahead of it", w.waits(0), 9);
    }

    private static void promise20() {
        LaneLock x = chamber(4, 1, 1);
        due("nobody", x.line(0), NONE);
        x.ship(0, SHIP, 4, 0, 9);
        x.ship(1, SHIP, 4, 0, 0);
        x.ship(0, SHIP, 4, 0, 9);
        x.ship(1, SHIP, 5, 0, 0);
        x.ship(0, SHIP, 2, 0, 30);
        x.ship(0, SHIP, 2, 0, 30);
        // 1 at 0, 0 at 10 (waits 1), 2 at 20 (waits 11), 4 and 5 at 30 (0)
        int[] want = {2, 0, 1, 4, 5, NONE, NONE};
        for (int i = 0; i < want.length; i++) {
            due("line(" + i + ")", x.line(i), want[i]);
        }
        due("none", x.line(MAX), NONE);
        dues("below", BAD, x.line(-1), x.line(MIN));
    }

    private static void promise21() {
        LaneLock x = chamber(4, 1, 1);
        dues("nobody", 0, x.day(0), x.day(1));
        due("none begins", x.day(2), NONE);
        x.ship(0, SHIP, 4, 0, 9);
        x.ship(1, SHIP, 4, 0, 0);
        x.ship(0, SHIP, 4, 0, 9);
        x.ship(1, SHIP, 5, 0, 0);
        x.ship(0, SHIP, 2, 0, 30);
        x.ship(0, SHIP, 2, 0, 30);
        due("all waits", x.day(0), 12);
        due("fillings", x.day(1), 4);
        due("the last one", x.day(2), 30);
        dues("what", BAD, x.day(-1), x.day(3), x.day(MIN), x.day(MAX));
        due("just in thought", x.count(6), 6);
        LaneLock y = chamber(1, 1, 1);
        y.set(3, 60);
        for (int k = 0; k < 10; k++) {
            y.ship(k % 2, SHIP, 1, 0, 999);
        }
        due("the latest of all", y.day(2), 999 + 9 * 60);
        due("ten", y.day(1), 10);
        due("all waits", y.day(0), 45 * 60);
        LaneLock w = new LaneLock();
        for (int k = 9; k >= 0; k--) {
            w.ship(0, SHIP, 1, 0, 10 + 20 * k);
        }
        due("one by one as they come", w.day(1), 10);
        due("at once", w.day(0), 0);
        due("the last one", w.day(2), 190);
        LaneLock z = new LaneLock();
        plain(z, 0, 1);
        due("begins at 0", z.day(2), 0);
        z.set(4, 3);
        z.ship(0, SHIP, 1, 0, 100);
        z.ship(1, SHIP, 1, 0, 100);
        due("together", z.day(1), 2);
        due("at 100", z.day(2), 100);
    }

    private static void promise22() {
        LaneLock x = chamber(10, 1, 10);
        plain(x, 0, 5);
        plain(x, 1, 5);
        plain(x, 0, 5);
        plain(x, 1, 5);
        due("two", x.freely(0), 2);
        due("water", x.freely(1), 200);
        due("of several the most of lane 0", x.freely(2), 2);
        due("none of lane 1", x.freely(3), 0);
        dues("what", BAD, x.freely(-1), x.freely(4), x.freely(MIN), x.freely(MAX));
        due("just in thought", x.count(6), 4);
        LaneLock y = chamber(10, 1, 10);
        // loads 90, 80 | 90: a filling's water is 0 at least, so the heavy ones go apart
        y.ship(0, SHIP, 5, 0, 90000);
        y.ship(0, SHIP, 5, 0, 10000);
        y.ship(1, SHIP, 5, 0, 90000);
        due("two", y.freely(0), 2);
        due("least water", y.freely(1), 10);
        due("both of lane 0", y.freely(2), 2);
        due("then lane 1's", y.freely(3), 0);
        y.ship(1, SHIP, 5, 0, 10000);
        due("least water", y.freely(1), 0);
        LaneLock s = chamber(10, 1, 10);
        s.ship(0, SHIP, 5, 0, 90000);
        s.ship(0, SHIP, 5, 0, 90000);
        s.ship(1, SHIP, 5, 0, 10000);
        due("10 and 0, not 0 and 90", s.freely(1), 10);
        due("not the most of lane 0, as that spends more", s.freely(2), 1);
        due("of several the most of lane 1", s.freely(3), 1);
        LaneLock t = chamber(10, 1, 10);
        int[] lengths = {4, 5, 6, 5};
        for (int k = 0; k < 4; k++) {
            t.ship(k / 2, SHIP, lengths[k], 0, 100000);
        }
        due("two, though three spend no more", t.freely(0), 2);
        due("no water", t.freely(1), 0);
        due("not the most of lane 0, as that takes three", t.freely(2), 1);
        due("one of lane 1", t.freely(3), 1);
        LaneLock r = chamber(10, 1, 1);
        plain(r, 1, 5);
        plain(r, 1, 4);
        plain(r, 1, 3);
        due("two of one lane", r.freely(0), 2);
        due("none of lane 0", r.freely(2), 0);
        due("the most of lane 1", r.freely(3), 2);
        plain(r, 0, 6);
        due("still two", r.freely(0), 2);
        due("lane 1's two first", r.freely(2), 0);
        due("lane 1's two first", r.freely(3), 2);
        LaneLock z = chamber(10, 1, 10);
        z.ship(0, SHIP, 5, 0, 0);
        z.ship(0, TANKER, 1, 0, 0);
        z.ship(1, SHIP, 5, 0, 0);
        due("with, alone", z.freely(0), 2);
        due("one of lane 0", z.freely(2), 1);
        due("one of lane 1", z.freely(3), 1);
        z.ship(1, SHIP, 6, 0, 0);
        due("three", z.freely(0), 3);
        due("one of lane 0", z.freely(2), 1);
        due("the most of lane 1", z.freely(3), 1);
        z.ship(1, PAIR, 5, 0, 0);
        dues("it can't be", NONE, z.freely(0), z.freely(1), z.freely(2), z.freely(3));
        z.leave(4);
        due("it can", z.freely(0), 3);
        // lane 0 goes in ahead, so the first fit leaves no run for the other
        LaneLock w = chamber(6, 1, 1);
        w.bar(0, 2, true);
        plain(w, 0, 1);
        plain(w, 1, 2);
        due("one", w.freely(0), 1);
        LaneLock v = chamber(6, 1, 1);
        v.bar(0, 3, true);
        plain(v, 0, 2);
        plain(v, 1, 3);
        due("two: the order of going in is given", v.freely(0), 2);
        due("lane 0 ahead", v.freely(2), 1);
        due("lane 0 ahead", v.freely(3), 0);
        LaneLock u = chamber(1, 1, 1);
        for (int k = 0; k < 10; k++) {
            plain(u, 0, 1);
        }
        due("ten", u.freely(0), 10);
        due("ten's water", u.freely(1), 10);
        u.set(0, 10);
        due("one", u.freely(0), 1);
        due("all", u.freely(2), 10);
    }

    private static LaneLock toldOf() {
        LaneLock x = chamber(10, 1, 1);
        x.ship(0, SHIP, 4, 5, 0);
        x.ship(1, SHIP, 4, 3, 0);
        x.ship(0, SHIP, 4, 0, 0);
        x.ship(1, SHIP, 2, 9, 0);
        x.ship(0, SHIP, 9, 0, 0);
        return x;
    }

    private static void promise23() {
        LaneLock x = toldOf();
        // turns: 0 1 3, then 2, then 4
        row(x, 0, 0, 3, 1, 1, 0);
        due("all as told", x.tells(0, 0, 0), NONE);
        // ranked alike; short, old, heavy: 0, then 2, as of like ones that of lane 0 is taken
        due("rules", x.tells(0, 0, 1), 0b11);
        row(x, 1, 1, 3, 1, 1, 1);
        due("behind the last one 0", x.tells(1, 0, 0), 3);
        row(x, 1, 1, 2, 1, 1);
        due("the very first", x.tells(1, 0, 0), 0);
        due("no rule", x.tells(1, 0, 1), 0);
        due("ship and what are as they are", x.tells(0, MIN, 0), NONE);
        // 3 of length 1 or 2 goes in with 0 and 1; a barge or tanker of 2 does not, a pilot or ferry does
        due("lengths", x.tells(0, 3, 3), 0b110);
        due("kinds", x.tells(0, 3, 2), 1 << SHIP | 1 << FERRY | 1 << PILOT);
        due("nothing is changed", x.told(3, 1), 2);
        due("nothing is changed", x.told(3, 0), SHIP);
        due("nothing is changed", x.count(4), 0);
        row(x, 2, 0);
        due("nothing told", x.tells(2, 0, 0), NONE);
        due("nothing told: all rules", x.tells(2, 0, 1), 31);
        due("nothing told: all kinds", x.tells(2, 4, 2), 63);
        due("nothing told: all lengths", x.tells(2, 4, 3), 1022);
        x.sheet(2, 1, 8);
        due("eight", x.tells(2, 0, 0), 0);
        x.sheet(2, 1, 9);
        dues("more than eight", BAD, x.tells(2, 0, 0), x.tells(2, 0, 1), x.tells(2, 0, 2), x.tells(2, 0, 3));
        dues("sheet", BAD, x.tells(-1, 0, 0), x.tells(4, 0, 0), x.tells(MIN, 0, 0), x.tells(MAX, 0, 0));
        dues("what", BAD, x.tells(0, 0, -1), x.tells(0, 0, 4), x.tells(0, 0, MIN), x.tells(0, 0, MAX));
        dues("ship", BAD, x.tells(0, 5, 2), x.tells(0, 5, 3), x.tells(0, -1, 2), x.tells(3, MAX, 3));
        dues("missing", MISSING, x.tells(3, 0, 0), x.tells(3, 9, 1), x.tells(3, 0, 2), x.tells(3, 0, 3));
        x.leave(4);
        dues("state ahead of the sheet", STATE, x.tells(3, 4, 2), x.tells(3, 4, 3), x.tells(2, 4, 2));
        due("by 0 and 1 it does not matter", x.tells(0, 4, 0), 2);
        LaneLock y = chamber(1, 1, 1);
        for (int k = 0; k < 9; k++) {
            plain(y, 0, 1);
        }
        row(y, 0, 0, 1, 1, 1, 1, 1, 1, 1, 1);
        due("eight fillings", y.tells(0, 0, 0), NONE);
        y.put(0, 7, 257);
        due("bytes' lowest bits", y.tells(0, 0, 0), NONE);
        row(y, 0, 1, 257);
        due("ints as they are", y.tells(0, 0, 0), 0);
    }

    private static void promise24() {
        LaneLock x = toldOf();
        due("n", x.film(1, 5), 5);
        x.sheet(0, 0, 5);
        due("it is of bytes", x.copy(1, 0, 0, 0, 5), 5);
        due("as it goes", x.tells(1, 0, 0), NONE);
        due("five items", x.put(1, 4, 0), 1);
        due("no sixth", x.put(1, 5, 0), OUTSIDE);
        x.film(3, 0);
        due("none", x.put(3, 0, 0), OUTSIDE);
        dues("sheet", BAD, x.film(-1, 1), x.film(4, 1), x.film(MIN, 1), x.film(MAX, 1));
        dues("n", BAD, x.film(1, -1), x.film(1, 9), x.film(1, MIN), x.film(1, MAX));
        x.leave(0);
        x.undo();
        x.set(4, 2);
        due("what was told stays", x.tells(1, 0, 1), 0b11);
        x.set(4, 0);
        x.sheet(0, 1, 3);
        due("ints become bytes", x.film(0, 8), 8);
        due("ints become bytes", x.load(0, 1, 0, 0), UNLIKE);
        // the items themselves: a sheet of them is read as a ship of lane 0, kind 3, length 1, first 1, at minute 0
        LaneLock y = toldOf();
        y.film(0, 5);
        row(y, 1, 0, 0, 0, 0, 0, 0);
        y.copy(0, 0, 1, 1, 4);
        due("a ship of the film", y.load(1, 0, 0, 1), 1);
        int[] went = {3, 1, 1, 0};
        for (int i = 0; i < went.length; i++) {
            due("went by filling " + i, y.told(5, i < 3 ? i : 4), went[i]);
        }
    }

    private static void promise25() {
        LaneLock x = new LaneLock();
        due("none", x.image(), 0);
        plain(x, 0, 1);
        plain(x, 1, 1);
        plain(x, 1, 1);
        x.fill();
        due("all ships", x.image(), 3);
        x.leave(1);
        due("the latest image", x.back(), 3);
        plain(x, 1, 1);
        due("an image anew", x.image(), 4);
        x.back();
        due("the latest image", x.count(5), 4);
        LaneLock y = new LaneLock();
        plain(y, 0, 1);
        y.fill();
        y.image();
        due("deeds stay", y.undo(), 0);
    }

    private static void promise26() {
        LaneLock x = chamber(7, 1, 9);
        due("there is none", x.back(), STATE);
        x.set(3, 33);
        x.set(4, 4);
        x.bar(2, 19, true);
        x.bar(0, 0, true);
        x.cap(5, 50);
        x.cap(99, 9);
        x.ship(0, PILOT, 3, 4, 5006);
        x.ship(1, SHIP, 9, 1, 2003);
        x.ship(1, BARGE, 2, 2, 2004);
        x.fill();
        x.leave(2);
        x.image();
        x.undo();
        x.undo();
        for (int what = 0; what < 5; what++) {
            x.set(what, 2);
        }
        x.set(0, 9);
        due("by another chamber", x.fill(), 3);
        due("other water", x.spent(0), 27);
        x.bar(2, 19, false);
        x.bar(0, 0, false);
        x.bar(1, 1, true);
        x.cap(5, NONE);
        x.cap(99, 8);
        x.cap(0, 1);
        x.ship(0, SHIP, 1, 1, 1);
        x.sheet(0, 1, 3);
        due("all ships", x.back(), 3);
        int[] counts = {7, 1, 9, 33, 4, 3, 1, 1, 0, 6};
        for (int what = 0; what < 10; what++) {
            due("count(" + what + ")", x.count(what), counts[what]);
        }
        int[] told = {4, 3, 4, 5, 6, 0, 1, 2, 28, 0};
        for (int what = 0; what < 10; what++) {
            due("told(0, " + what + ")", x.told(0, what), told[what]);
        }
        due("it left", x.told(2, 6), 2);
        due("it waits", x.lane(1, 0), 1);
        due("alone", x.lane(1, 1), NONE);
        due("the ship that came is none", x.told(3, 0), BAD);
        due("ledger", x.spent(0), 58);
        due("barred", x.bar(2, 19, true), 1);
        due("barred", x.bar(0, 0, true), 1);
        due("not barred", x.bar(1, 1, false), 0);
        due("caps", x.may(5), 50);
        due("caps", x.may(99), 9);
        due("caps", x.may(4), NONE);
        due("no deeds", x.undo(), STATE);
        due("sheets stay", x.put(0, 2, 1), 1);
        x.leave(1);
        due("as often as one likes", x.back(), 3);
        due("as often as one likes", x.told(1, 6), 0);
        x.set(0, 20);
        due("one more filling", x.fill(), 1);
        due("two of the ledger", x.count(7), 2);
        x.back();
        due("one of the ledger", x.count(7), 1);
        due("it went in by none", x.told(1, 9), NONE);
        x.ship(0, FERRY, 1, 0, 0);
        due("numbers go on from the image's", x.told(3, 0), FERRY);
        due("the image does not change", x.back(), 3);
    }

    private static void promise27() {
        LaneLock x = new LaneLock();
        due("bytes", x.sheet(0, 0, 40), 1);
        due("last", x.put(0, 39, 1), 1);
        due("behind", x.put(0, 40, 1), OUTSIDE);
        due("ints", x.sheet(3, 1, 0), 1);
        due("no item", x.put(3, 0, 1), OUTSIDE);
        due("missing", x.sheet(0, -1, 0), 1);
        due("missing", x.put(0, 0, 1), MISSING);
        due("n does not matter", x.sheet(0, -1, 41), 1);
        due("n does not matter", x.sheet(0, -1, MIN), 1);
        dues("sheet", BAD, x.sheet(-1, 0, 1), x.sheet(4, 0, 1), x.sheet(MIN, -1, 1), x.sheet(MAX, 0, -1));
        dues("sort", BAD, x.sheet(0, -2, 1), x.sheet(0, 2, 1), x.sheet(0, MIN, -1), x.sheet(0, MAX, 1));
        dues("n", BAD, x.sheet(0, 0, 41), x.sheet(0, 1, MAX));
        dues("below 0", BELOW, x.sheet(0, 0, -1), x.sheet(0, 1, MIN));
        due("refused ones change nothing", x.put(0, 0, 1), MISSING);
        row(x, 1, 0, 0, 1, 1, 1, 1);
        x.sheet(1, 0, 5);
        due("all 0: no ship of length 0", x.load(1, 0, 0, 1), 0);
        row(x, 1, 0, 5);
        x.sheet(1, -1, 0);
        x.sheet(1, 0, 1);
        due("all 0: nobody goes in", x.tells(1, 0, 0), NONE);
    }

    private static void promise28() {
        LaneLock x = new LaneLock();
        x.sheet(0, 0, 5);
        x.sheet(1, 1, 5);
        due("first", x.put(0, 0, 1), 1);
        due("last", x.put(1, 4, MAX), 1);
        dues("place", OUTSIDE, x.put(0, 5, 1), x.put(0, -1, 1), x.put(1, MIN, 1), x.put(1, MAX, 1));
        dues("sheet", BAD, x.put(-1, 0, 0), x.put(4, 0, 0), x.put(MIN, 0, 0), x.put(MAX, 9, 0));
        dues("missing", MISSING, x.put(2, 0, 0), x.put(2, -1, 0), x.put(3, MAX, 0));
        row(x, 0, 0, 256 + 1, 512 + 4, -256 + 9, 3, 127);
        due("lowest 8 bits", x.load(0, 0, 0, 1), 1);
        due("lane", x.told(0, 5), 1);
        due("kind", x.told(0, 0), 4);
        due("length", x.told(0, 1), 9);
        due("comes", x.told(0, 4), 127);
        row(x, 1, 1, 1, 4, 9, 3, 999998);
        due("ints", x.load(1, 1, 0, 1), 1);
        due("comes", x.told(1, 4), 998);
        x.put(1, 0, 257);
        due("ints as they are", x.load(1, 1, 0, 1), 0);
        x.put(0, 4, 128);
        due("bytes have a sign", x.load(0, 0, 0, 1), 0);
    }

    private static void promise29() {
        LaneLock x = new LaneLock();
        row(x, 0, 1, 0, 0, 1, 2, 3, 4, 5, 6);
        x.sheet(1, 1, 5);
        due("five", x.copy(0, 1, 1, 0, 5), 5);
        due("they came", x.load(1, 1, 0, 1), 1);
        due("length", x.told(0, 1), 2);
        due("first", x.told(0, 2), 3);
        due("comes", x.told(0, 4), 4);
        // onto itself, forth and back
        row(x, 2, 1, 1, 2, 3, 4, 5, 0);
        due("forth", x.copy(2, 0, 2, 1, 5), 5);
        x.put(2, 0, 0);
        x.load(2, 1, 0, 1);
        dues("as they were", 1, x.told(1, 0));
        dues("as they were", 4, x.told(1, 4));
        row(x, 2, 1, 0, 0, 1, 2, 3, 4);
        due("back", x.copy(2, 1, 2, 0, 5), 5);
        x.load(2, 1, 0, 1);
        due("as they were", x.told(2, 1), 2);
        due("as they were", x.told(2, 4), 4);
        due("none", x.copy(0, 8, 1, 5, 0), 0);
        dues("outside", OUTSIDE, x.copy(0, 0, 1, 0, 6), x.copy(0, 4, 1, 0, 5), x.copy(0, 0, 1, 1, 5), x.copy(0, -1, 1, 0, 1),
            x.copy(0, 0, 1, -1, 1), x.copy(0, 9, 1, 0, 0), x.copy(0, 0, 1, 6, 0), x.copy(0, 0, 1, 0, -1),
            x.copy(0, 1, 1, 1, MAX), x.copy(0, MAX, 1, 0, 1), x.copy(0, 0, 1, MAX, MAX), x.copy(0, 0, 1, 0, MIN));
        dues("sheet", BAD, x.copy(-1, 0, 1, 0, 1), x.copy(4, 0, 1, 0, 1), x.copy(0, 0, -1, 0, 1), x.copy(0, 0, 4, 0, 1), x.copy(MIN, 0, MAX, 0, 1));
        dues("missing", MISSING, x.copy(3, 0, 0, 0, 1), x.copy(0, 0, 3, 0, 1), x.copy(3, -1, 3, -1, -1));
        x.sheet(3, 0, 5);
        dues("unlike", UNLIKE, x.copy(3, 0, 0, 0, 1), x.copy(0, 0, 3, 0, 1), x.copy(0, -1, 3, 0, -1), x.copy(0, 0, 3, 0, 0));
        x.sheet(2, 0, 5);
        due("bytes", x.copy(3, 0, 2, 0, 5), 5);
    }

    private static void promise30() {
        LaneLock x = new LaneLock();
        row(x, 0, 1, 9, 0, SHIP, 3, 2, 7008, 1, FERRY, 4, 1, 5, 0, SHIP, 10, 1, 5, 1, PAIR, 2, 0, 0);
        due("three of four", x.load(0, 1, 1, 4), 3);
        due("load", x.told(0, 3), 7);
        due("comes", x.told(0, 4), 8);
        due("second", x.told(1, 0), FERRY);
        due("third", x.told(2, 0), PAIR);
        due("none", x.load(0, 1, 0, 0), 0);
        due("none, from anywhere", x.load(0, 1, -5, 0), 0);
        due("none, from anywhere", x.load(0, 1, MAX, 0), 0);
        dues("outside", OUTSIDE, x.load(0, 1, -1, 1), x.load(0, 1, 21, 1), x.load(0, 1, 17, 1), x.load(0, 1, MAX, 10), x.load(0, 1, MIN, 10));
        due("nobody came", x.count(5), 3);
        due("what stood ahead came", x.load(0, 1, 11, 3), OUTSIDE);
        due("what stood ahead came", x.count(5), 4);
        due("the very last", x.load(0, 1, 16, 1), 1);
        dues("sheet", BAD, x.load(-1, 1, 0, 1), x.load(4, 1, 0, 1), x.load(MIN, 1, 0, 0), x.load(MAX, 1, 0, 0));
        dues("sort", BAD, x.load(0, -1, 0, 1), x.load(0, 2, 0, 1), x.load(1, -1, 0, 0), x.load(0, MAX, 0, 0));
        dues("n", BAD, x.load(0, 1, 0, -1), x.load(0, 1, 0, 11), x.load(0, 1, 0, MIN), x.load(0, 1, 0, MAX));
        dues("unlike", UNLIKE, x.load(0, 0, 0, 1), x.load(0, 0, 0, 0), x.load(0, 0, -1, 1));
        dues("missing", MISSING, x.load(1, 0, 0, 1), x.load(1, 1, 0, 0), x.load(1, 1, -1, 1));
        x.leave(0);
        x.load(0, 1, 11, 1);
        due("none that came ends no deed", x.count(8), 1);
        x.load(0, 1, 1, 1);
        due("one that came does", x.count(8), 0);
        x.sheet(1, 0, 40);
        for (int i = 0; i < 40; i++) {
            x.put(1, i, i % 5 == 2 ? 1 : 0);
        }
        due("till all are ten", x.load(1, 0, 0, 8), 4);
        due("full ones are left out", x.load(1, 0, 0, 8), 0);
        due("a place outside is told even so", x.load(1, 0, 0, 9), OUTSIDE);
        due("ten", x.count(5), 10);
    }

    public static void main(String[] args) {
        constants();
        Runnable[] all = {PromisesTest::promise1, PromisesTest::promise2, PromisesTest::promise3, PromisesTest::promise4,
            PromisesTest::promise5, PromisesTest::promise6, PromisesTest::promise7, PromisesTest::promise8,
            PromisesTest::promise9, PromisesTest::promise10, PromisesTest::promise11, PromisesTest::promise12,
            PromisesTest::promise13, PromisesTest::promise14, PromisesTest::promise15, PromisesTest::promise16,
            PromisesTest::promise17, PromisesTest::promise18, PromisesTest::promise19, PromisesTest::promise20,
            PromisesTest::promise21, PromisesTest::promise22, PromisesTest::promise23, PromisesTest::promise24,
            PromisesTest::promise25, PromisesTest::promise26, PromisesTest::promise27, PromisesTest::promise28,
            PromisesTest::promise29, PromisesTest::promise30};
        for (int i = 0; i < all.length; i++) {
            about = "promise " + (i + 1) + ": ";
            all[i].run();
        }
        end("all promises");
    }
}
