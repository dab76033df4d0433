/** Promises 1 to 13: families, wishes, bars, weeks. */
public final class FamiliesTest {
    private static final Check check = new Check();
    private static final int BIG = Integer.MAX_VALUE;
    private static final int SMALL = Integer.MIN_VALUE;

    public static void main(String[] args) {
        promise1NewObject();
        promise2Family();
        promise3Weeks();
        promise4Wish();
        promise5Wishes();
        promise5Sheets();
        promise6Bar();
        promise7In();
        promise8Set();
        promise9Count();
        promise10Of();
        promise11Rank();
        promise12Can();
        promise13Week();
        check.end("FamiliesTest");
    }

    private static void promise1NewObject() {
        HomeRings x = new HomeRings();
        int[] due = {0, 0, 0, 0, 0, 0, 0, -1};
        for (int what = 0; what < due.length; what++) {
            check.due("new count(" + what + ")", x.count(what), due[what]);
        }
        check.dueRowThrows(x, 0);
        check.due("new went(0, 0)", x.went(0, 0), -1);
        check.due("new undo()", x.undo(), -1);
        check.due("new wrong()", x.wrong(), 0);
        check.due("NONE", HomeRings.NONE, -1);
        HomeRings y = new HomeRings();
        y.family(0, 1, 1, false);
        check.due("objects stand apart", x.count(0), 0);
    }

    private static void promise2Family() {
        HomeRings x = new HomeRings();
        int[][] refused = {{-1, 1, 1}, {4, 1, 1}, {0, 0, 1}, {0, 10, 1}, {0, 1, 0}, {0, 1, 10},
            {BIG, 1, 1}, {SMALL, 1, 1}, {0, BIG, 1}, {0, SMALL, 1}, {0, 1, BIG}, {0, 1, SMALL}};
        for (int[] r : refused) {
            check.due("refused family", x.family(r[0], r[1], r[2], true), -1);
        }
        check.due("none came", x.count(0), 0);
        for (int f = 0; f < 10; f++) {
            check.due("family " + f, x.family(f % 4, 1 + f % 9, 9 - f % 9, f % 2 == 0), f);
            check.dueOf(x, f, 2, 0);
            check.dueOf(x, f, 3, 0);
            check.dueOf(x, f, 4, -1);
            check.dueOf(x, f, 5, -1);
            check.dueOf(x, f, 6, 1);
        }
        check.due("family 10", x.family(0, 1, 1, false), -1);
        check.due("ten came", x.count(0), 10);
    }

    private static void promise3Weeks() {
        HomeRings x = Check.farms(2);
        check.due("all weeks at first", x.week(0, 1), 0);
        check.due("free 50..51", x.weeks(1, 0, 50, 51), true);
        check.due("last two weeks", x.week(0, 1), 50);
        check.due("the other way is as it was", x.week(1, 0), 0);
        check.due("trip 0..50", x.weeks(0, 1, 0, 50), true);
        check.due("one week fits", x.can(0, 1), 5);
        check.due("free of 0 as it was", x.week(1, 0), 0);
        check.due("one week", x.weeks(0, 1, 7, 7), true);
        x.set(0, 1);
        x.weeks(1, 0, 7, 7);
        check.due("one week in one", x.week(0, 1), 7);
        int[][] refused = {{2, 0, 0, 1}, {-1, 0, 0, 1}, {0, 2, 0, 1}, {0, -1, 0, 1}, {0, 0, -1, 1}, {0, 1, 0, 52},
            {0, 0, 2, 1}, {0, 1, 52, 52}, {BIG, 0, 0, 1}, {SMALL, 0, 0, 1}, {0, 0, SMALL, BIG}};
        for (int[] r : refused) {
            check.due("refused weeks", x.weeks(r[0], r[1], r[2], r[3]), false);
        }
        check.due("refused ones change nothing", x.week(0, 1), 7);
        check.due("weeks(0, 0, 0, 51)", x.weeks(0, 0, 0, 51), true);
    }

    private static void promise4Wish() {
        HomeRings x = Check.farms(10);
        for (int home = 1; home < 10; home++) {
            check.due("wish " + home, x.wish(0, home), home);
            check.due("again", x.wish(0, home), -1);
            check.due("rank", x.rank(0, home), home);
        }
        check.due("own", x.wish(1, 1), -1);
        check.due("no home", x.wish(1, 10), -1);
        check.due("no home", x.wish(1, -1), -1);
        check.due("no family", x.wish(10, 1), -1);
        check.due("no family", x.wish(SMALL, BIG), -1);
        check.dueOf(x, 0, 2, 9);
        check.dueOf(x, 1, 2, 0);
    }

    private static void promise5Wishes() {
        HomeRings x = Check.farms(5);
        x.wish(0, 4);
        check.due("bytes", x.wishes(0, 0, 3, 1, 1), 3);
        check.due("an old wish is gone", x.rank(0, 4), 0);
        check.due("first", x.rank(0, 1), 1);
        check.due("third", x.rank(0, 3), 3);
        check.due("ints down", x.wishes(0, 1, 4, 4, -1), 4);
        check.due("fourth", x.rank(0, 1), 4);
        check.due("up to its own", x.wishes(2, 1, 5, 0, 1), 2);
        check.due("up to one that is there", x.wishes(0, 1, 5, 2, 0), 1);
        check.due("up to no family", x.wishes(0, 1, 20, 3, 1), 2);
        check.due("no entries", x.wishes(0, 1, 0, 3, 1), 0);
        check.dueOf(x, 0, 2, 0);
        x.wish(0, 1);
        check.due("a missing one", x.wishes(0, 2, 5, 3, 1), 0);
        check.dueOf(x, 0, 2, 0);
        check.due("a missing one of any n", x.wishes(0, 2, SMALL, 3, 1), 0);
        x.wish(0, 1);
        check.due("below 0, bytes", x.wishes(0, 0, -1, 3, 1), -2);
        check.due("below 0, ints", x.wishes(0, 1, SMALL, 3, 1), -2);
        check.due("above 20", x.wishes(0, 0, 21, 3, 1), -1);
        check.due("above 20, missing", x.wishes(0, 2, 21, 3, 1), -1);
        check.due("no family ahead of below 0", x.wishes(5, 0, -1, 3, 1), -1);
        check.due("no family", x.wishes(-1, 1, 1, 3, 1), -1);
        check.due("no kind ahead of below 0", x.wishes(0, 3, -1, 3, 1), -1);
        check.due("no kind", x.wishes(0, -1, 1, 3, 1), -1);
        check.due("refused ones change nothing", x.rank(0, 1), 1);
    }

    private static void promise5Sheets() {
        HomeRings x = Check.farms(5);
        check.due("low bits of 257", x.wishes(0, 0, 1, 257, 0), 1);
        check.due("257 as an int", x.wishes(0, 1, 1, 257, 0), 0);
        check.due("low bits go on", x.wishes(0, 0, 4, 257, 257), 4);
        check.due("fourth", x.rank(0, 4), 4);
        check.due("255 has a sign", x.wishes(0, 0, 1, 255, 0), 0);
        check.due("-255 is 1", x.wishes(0, 0, 1, -255, 0), 1);
        check.due("ints wrap", x.wishes(0, 1, 2, 1, SMALL), 1);
        check.due("ints wrap round", x.wishes(3, 1, 3, 2, 0x7fffffff), 1);
        check.due("twice 2^31 is 0, and its byte is there", x.wishes(0, 0, 3, 1, SMALL), 1);
        check.due("bytes of a wide step", x.wishes(0, 0, 3, 1, 0x7fffff01), 3);
        check.due("third", x.rank(0, 3), 3);
    }

    private static void promise6Bar() {
        HomeRings x = Check.farms(3);
        check.due("bar", x.bar(2, 0, true), true);
        check.due("both ways", x.can(0, 2), 2);
        check.due("both ways", x.can(2, 0), 2);
        check.due("no other", x.can(0, 1), 0);
        check.due("again", x.bar(0, 2, true), true);
        check.due("no more", x.bar(0, 2, false), true);
        check.due("no more", x.can(0, 2), 0);
        check.due("no more", x.can(2, 0), 0);
        check.due("none was", x.bar(0, 1, false), true);
        check.due("itself", x.bar(1, 1, true), false);
        check.due("no family", x.bar(0, 3, true), false);
        check.due("no family", x.bar(-1, 0, true), false);
        check.due("no family", x.bar(BIG, SMALL, true), false);
    }

    private static void promise7In() {
        HomeRings x = Check.wishing(new int[][] {{1}, {0}});
        x.best();
        check.due("out", x.in(1, false), true);
        check.dueOf(x, 1, 6, 0);
        check.due("count", x.count(1), 1);
        check.duePlan(x, 1, 0);
        check.due("can", x.can(0, 1), 1);
        check.due("can", x.can(1, 0), 1);
        check.due("in", x.in(1, true), true);
        check.due("in again", x.in(1, true), true);
        check.due("can", x.can(0, 1), 0);
        check.due("no family", x.in(2, false), false);
        check.due("no family", x.in(-1, false), false);
    }

    private static void promise8Set() {
        HomeRings x = new HomeRings();
        int[][] rows = {{0, 8, 2}, {0, 1, 8}, {0, 0, -1}, {0, 9, -1}, {0, 2, 1},
            {1, 2, 10}, {1, 10, 2}, {1, 1, -1}, {1, 11, -1}, {1, 3, 10},
            {2, 500, 0}, {2, 0, 500}, {2, -1, -1}, {2, 501, -1}, {2, 7, 0}, {2, 7, 7},
            {3, 2, -1}, {-1, 2, -1}, {0, BIG, -1}, {1, SMALL, -1}, {2, BIG, -1}, {BIG, 2, -1}};
        for (int[] r : rows) {
            check.due("set(" + r[0] + ", " + r[1] + ")", x.set(r[0], r[1]), r[2]);
        }
    }

    private static void promise9Count() {
        HomeRings x = Check.wishing(new int[][] {{1, 2}, {0, 2}, {3, 1}, {2, 0}, {}});
        Check.putAll(x, 1, 0, 3, 2, -1);
        int[] closing = {5, 5, 0, 0, 4, 2, 4};
        for (int what = 0; what < closing.length; what++) {
            check.due("count(" + what + ")", x.count(what), closing[what]);
        }
        x.put(4, 0);
        check.due("does not close: goers", x.count(4), 5);
        check.due("does not close: rings", x.count(5), 0);
        check.due("no wish counts 0", x.count(6), 4);
        Check.putAll(x, 2, 0, 1, -1, -1);
        check.due("sum", x.count(6), 2 + 1 + 2);
        check.due("one ring", x.count(5), 1);
        x.set(1, 2);
        check.due("MOST does not matter", x.count(5), 1);
        x.in(4, false);
        check.due("those in", x.count(1), 4);
        x.ring(0);
        check.due("row", x.count(3), 3);
        x.book();
        check.due("year", x.count(2), 1);
        check.due("none goes", x.count(4), 0);
        check.due("count(7)", x.count(7), -1);
        check.due("count(-1)", x.count(-1), -1);
        check.due("count(SMALL)", x.count(SMALL), -1);
    }

    private static void promise10Of() {
        HomeRings x = new HomeRings();
        int[][] sleepsAndWorth = {{5, 50}, {4, 40}, {5, 55}, {4, 55}};
        for (int kind = 0; kind < 4; kind++) {
            x.family(kind, 5, 1, false);
            check.dueOf(x, kind, 0, sleepsAndWorth[kind][0]);
            check.dueOf(x, kind, 1, sleepsAndWorth[kind][1]);
        }
        x.family(1, 1, 1, false);
        x.family(3, 1, 1, false);
        check.dueOf(x, 4, 0, 0);
        check.dueOf(x, 4, 1, 0);
        check.dueOf(x, 5, 0, 0);
        check.dueOf(x, 5, 1, 15);
        x.wishes(0, 1, 5, 1, 1);
        check.dueOf(x, 0, 2, 5);
        check.dueOf(x, 0, 7, 3);
        x.bar(0, 2, true);
        check.dueOf(x, 0, 7, 2);
        check.dueOf(x, 1, 7, 0);
        x.put(3, 1);
        x.put(2, 1);
        check.dueOf(x, 3, 4, 1);
        check.dueOf(x, 1, 5, 2);
        check.dueOf(x, 0, 5, -1);
        for (int what = 0; what < 8; what++) {
            check.dueOfThrows(x, 6, what);
            check.dueOfThrows(x, -1, what);
        }
        for (int what : new int[] {-1, 8, BIG, SMALL}) {
            check.dueOfThrows(x, 0, what);
        }
    }

    private static void promise11Rank() {
        HomeRings x = Check.wishing(new int[][] {{2, 1}, {}, {}, {}});
        check.due("first", x.rank(0, 2), 1);
        check.due("second", x.rank(0, 1), 2);
        check.due("none", x.rank(0, 3), 0);
        check.due("the other way", x.rank(2, 0), 0);
        check.due("own", x.rank(0, 0), -1);
        check.due("no home", x.rank(0, 4), -1);
        check.due("no home", x.rank(0, -1), -1);
        check.due("no family", x.rank(4, 0), -1);
        check.due("no family", x.rank(SMALL, BIG), -1);
        x.in(2, false);
        check.due("rank of one who is out", x.rank(0, 2), 1);
    }

    private static void promise12Can() {
        HomeRings x = new HomeRings();
        x.family(0, 2, 3, true);
        x.family(0, 2, 2, false);
        x.weeks(1, 0, 0, 0);
        x.bar(0, 1, true);
        x.in(1, false);
        check.due("out first", x.can(0, 1), 1);
        x.in(1, true);
        check.due("barred next", x.can(0, 1), 2);
        x.bar(0, 1, false);
        check.due("persons next", x.can(0, 1), 3);
        x.family(0, 9, 1, false);
        x.weeks(2, 0, 0, 0);
        check.due("the pet next", x.can(0, 2), 4);
        check.due("the weeks last", x.can(1, 2), 5);
        x.weeks(2, 0, 0, 1);
        check.due("as many weeks as needed", x.can(1, 2), 0);
        x.set(0, 3);
        check.due("one week less", x.can(1, 2), 5);
        check.due("as many persons as sleep there", x.can(1, 0), 0);
        x.in(0, false);
        check.due("the guest is out", x.can(0, 2), 1);
        check.due("weeks apart", x.weeks(1, 1, 30, 40) ? x.can(1, 2) : -9, 5);
        check.due("own", x.can(0, 0), -1);
        check.due("no home", x.can(0, 3), -1);
        check.due("no family", x.can(-1, 0), -1);
        check.due("no family", x.can(BIG, SMALL), -1);
        promise12Kinds();
    }

    private static void promise12Kinds() {
        HomeRings x = new HomeRings();
        x.family(2, 9, 3, true);
        for (int kind = 0; kind < 4; kind++) {
            x.family(kind, 3, 1, false);
            x.family(kind, 4, 1, false);
        }
        int[] due = {0, 4, 4, 3, 4, 0, 0, 3, 0};
        for (int home = 1; home < due.length; home++) {
            check.due("three with a pet to " + home, x.can(0, home), due[home]);
        }
    }

    private static void promise13Week() {
        HomeRings x = Check.farms(2);
        x.weeks(0, 1, 10, 20);
        x.weeks(1, 0, 5, 12);
        check.due("begin of the trip", x.week(0, 1), 10);
        x.weeks(1, 0, 15, 30);
        check.due("begin of the free ones", x.week(0, 1), 15);
        x.set(0, 6);
        check.due("just enough", x.week(0, 1), 15);
        x.set(0, 7);
        check.due("too few", x.week(0, 1), -1);
        x.set(0, 2);
        x.bar(0, 1, true);
        check.due("barred", x.week(0, 1), -1);
        check.due("own", x.week(0, 0), -1);
        check.due("no home", x.week(0, 2), -1);
        check.due("no family", x.week(-1, 0), -1);
        check.due("no family", x.week(BIG, SMALL), -1);
    }
}
