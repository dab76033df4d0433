/** Promises 21 to 26: chains, points, years, the row. */
public final class PointsTest {
    private static final Check check = new Check();
    private static final int BIG = Integer.MAX_VALUE;
    private static final int SMALL = Integer.MIN_VALUE;

    public static void main(String[] args) {
        promise21Chain();
        promise21Points();
        promise21Plan();
        promise21Long();
        promise22Travel();
        promise22Behind();
        promise23Book();
        promise23Years();
        promise24Went();
        promise25Undo();
        promise25Later();
        promise26Row();
        promise26RowStays();
        check.end("PointsTest");
    }

    private static void promise21Chain() {
        HomeRings x = Check.wishing(new int[][] {{3, 1}, {2}, {}, {4}, {}, {0}});
        x.set(2, 500);
        check.due("of equal ones the first row", x.chain(0), 2);
        check.dueRow(x, 0, 1, 2);
        check.due("longer from 5", x.chain(5), 3);
        check.dueRow(x, 5, 0, 1, 2);
        x.wish(4, 5);
        check.due("the longest one", x.chain(0), 3);
        check.dueRow(x, 0, 3, 4, 5);
        check.due("each once", x.chain(4), 4);
        check.dueRow(x, 4, 5, 0, 1, 2);
        x.bar(4, 5, true);
        check.due("must take", x.chain(4), 0);
        check.dueRow(x, 4, 5, 0, 1, 2);
        check.due("takes none", x.chain(2), 0);
        check.due("no family", x.chain(6), -1);
        check.due("no family", x.chain(-1), -1);
        check.due("no family", x.chain(BIG), -1);
        x.in(0, false);
        check.due("out", x.chain(0), 0);
        check.due("on to one who is out", x.chain(5), 0);
        check.dueRow(x, 4, 5, 0, 1, 2);
    }

    private static void promise21Points() {
        HomeRings x = Check.homes(new int[][] {{1}, {2}, {0}});
        check.due("nothing to pay with", x.chain(0), 0);
        x.set(2, 19);
        check.due("one point below", x.chain(0), 0);
        x.set(2, 20);
        check.due("at the limit; 1 is paid 20 ahead of paying 30", x.chain(0), 2);
        check.dueRow(x, 0, 1, 2);
        check.due("from 2 to 0, which is paid 10 and pays 20; 1 goes no further", x.chain(2), 2);
        check.dueRow(x, 2, 0, 1);
        check.due("the first is not paid", x.chain(1), 0);
        x.set(2, 9);
        check.due("one point below", x.chain(2), 0);
        x.set(2, 10);
        check.due("at the limit", x.chain(2), 2);
        HomeRings y = Check.homes(new int[][] {{}, {0}, {}, {2}, {3}, {4}});
        y.set(2, 50);
        y.chain(5);
        check.due("all on the way can pay", y.travel(), 3);
        check.duePoints(y, 0, 0, 30, 10, 10, -50);
        check.due("5 owes as much as it may", y.chain(5), 0);
        y.set(2, 40);
        check.due("4 has 10 and pays 40", y.chain(4), 2);
    }

    private static void promise21Plan() {
        HomeRings x = Check.wishing(new int[][] {{1, 3}, {0, 2}, {3}, {4, 5}, {}, {}});
        x.set(2, 500);
        Check.putAll(x, -1, -1, -1, -1, -1, 4);
        check.due("4 is gone to, 5 goes", x.chain(3), 0);
        x.put(5, -1);
        check.due("none goes", x.chain(3), 1);
        check.dueRow(x, 3, 4);
        Check.putAll(x, 1, 0, -1, -1, -1, -1);
        check.due("goes", x.chain(0), -1);
        check.due("others", x.chain(2), 2);
        check.dueRow(x, 2, 3, 4);
        x.put(1, 2);
        check.due("its own home may be gone to", x.chain(2), 2);
        check.due("on the way it may not", Check.wishing(new int[][] {{1}, {2}, {}}).chain(0), 0);
        HomeRings y = Check.wishing(new int[][] {{1}, {2}, {}, {1}});
        y.set(2, 500);
        check.due("free", y.chain(0), 2);
        y.put(3, 1);
        check.due("3 goes to 1", y.chain(0), 0);
        y.put(3, 2);
        check.due("3 goes to 2", y.chain(0), 1);
        check.dueRow(y, 0, 1);
    }

    private static void promise21Long() {
        HomeRings x = Check.farms(10);
        x.set(2, 500);
        for (int f = 0; f < 10; f++) {
            x.wishes(f, 1, 10, 9, -1);
            for (int home = 9; home >= 0; home--) {
                x.wish(f, home);
            }
        }
        check.due("all", x.chain(4), 9);
        check.dueRow(x, 4, 0, 1, 2, 3, 5, 6, 7, 8, 9);
        x.wishes(8, 2, 0, 0, 0);
        x.wishes(9, 2, 0, 0, 0);
        check.due("two that take none: one of them ends it", x.chain(4), 8);
        check.dueRow(x, 4, 0, 1, 2, 3, 5, 6, 7, 8);
    }

    private static void promise22Travel() {
        HomeRings x = Check.homes(new int[][] {{1}, {2}, {}});
        check.due("no chain", x.travel(), -1);
        x.chain(0);
        check.due("it told none", x.travel(), -1);
        x.set(2, 20);
        x.chain(0);
        check.due("two go", x.travel(), 2);
        check.duePoints(x, -20, -10, 30);
        check.duePlan(x, -1, -1, -1);
        check.dueRow(x, 0, 1, 2);
        check.due("once", x.travel(), -1);
        check.duePoints(x, -20, -10, 30);
        check.due("0 owes 20", x.chain(0), 0);
        check.due("the row of the chain before is still told", x.count(3), 3);
        check.due("and not paid once more", x.travel(), -1);
        check.duePoints(x, -20, -10, 30);
    }

    private static HomeRings withChain() {
        HomeRings x = Check.homes(new int[][] {{1}, {2, 0}, {}});
        x.set(2, 500);
        x.chain(0);
        return x;
    }

    private static void promise22Behind() {
        HomeRings x = withChain();
        x.count(3);
        x.count(99);
        check.dueOf(x, 0, 3, 0);
        check.dueOfThrows(x, 9, 9);
        x.rank(0, 1);
        x.can(0, 1);
        x.week(0, 1);
        x.wrong();
        x.went(0, 0);
        x.went(99, 99);
        x.row(0);
        check.dueRowThrows(x, 99);
        check.due("these may stand between", x.travel(), 2);
        for (int call = 0; call < 34; call++) {
            HomeRings y = withChain();
            callBetween(y, call);
            check.due("behind call " + call, y.travel(), -1);
            check.duePoints(y, 0, 0, 0);
        }
    }

    private static void callBetween(HomeRings y, int call) {
        switch (call) {
            case 0: y.family(0, 1, 1, false); break;
            case 1: y.family(9, 1, 1, false); break;
            case 2: y.weeks(0, 0, 0, 51); break;
            case 3: y.weeks(9, 0, 0, 51); break;
            case 4: y.wish(2, 0); break;
            case 5: y.wish(9, 0); break;
            case 6: y.wishes(2, 2, 0, 0, 0); break;
            case 7: y.wishes(9, 2, 0, 0, 0); break;
            case 8: y.wishes(2, 0, -1, 0, 0); break;
            case 9: y.bar(0, 1, false); break;
            case 10: y.bar(0, 0, false); break;
            case 11: y.in(0, true); break;
            case 12: y.in(9, true); break;
            case 13: y.set(0, 2); break;
            case 14: y.set(9, 2); break;
            case 15: y.put(0, -1); break;
            case 16: y.put(9, -1); break;
            case 17: y.put(0, 0); break;
            case 18: y.trade(); y.put(0, -1); y.put(1, -1); break;
            case 19: y.wishes(1, 1, 1, 2, 0); y.chain(0); y.best(); break;
            case 20: y.wishes(1, 1, 1, 2, 0); y.chain(0); y.mend(); break;
            case 21: y.wishes(1, 1, 1, 2, 0); y.chain(0); y.trade(); break;
            case 22: y.blocks(); break;
            case 23: y.ring(0); break;
            case 24: y.ring(9); break;
            case 25: y.chain(9); break;
            case 26: y.chain(2); break;
            case 27: y.undo(); break;
            case 28: y.book(); break;
            case 29: y.put(2, 0); y.chain(2); break;
            case 30: y.put(2, 0); y.book(); break;
            case 31: y.weeks(0, 9, 0, 51); break;
            case 32: y.wish(0, 0); break;
            default: y.set(1, 1); break;
        }
    }

    private static void promise23Book() {
        HomeRings x = Check.homes(new int[][] {{1}, {2}, {0}, {}});
        check.due("three", x.best(), 3);
        x.set(1, 2);
        check.due("MOST and LIMIT do not matter", x.book(), 3);
        check.duePoints(x, -10, -10, 20, 0);
        check.duePlan(x, -1, -1, -1, -1);
        check.due("next year", x.count(2), 1);
        check.due("none goes, and that closes", x.book(), 0);
        check.due("next year", x.count(2), 2);
        x.put(0, 1);
        check.due("does not close", x.book(), -1);
        check.due("the same year", x.count(2), 2);
        check.duePlan(x, 1, -1, -1, -1);
        check.duePoints(x, -10, -10, 20, 0);
    }

    private static void promise23Years() {
        HomeRings x = Check.homes(new int[][] {{1}, {0}});
        for (int year = 0; year < 60; year++) {
            x.put(0, 1);
            x.put(1, 0);
            check.due("book", x.book(), 2);
        }
        check.due("years", x.count(2), 60);
        check.duePoints(x, -600, 600);
        check.due("61st", x.book(), -1);
        x.put(0, 1);
        check.due("61st, asked first", x.book(), -1);
        check.duePlan(x, 1, -1);
        check.due("last year", x.went(59, 1), 0);
        check.due("no year", x.went(60, 1), -1);
        check.due("back", x.undo(), 59);
        check.duePlan(x, 1, 0);
        check.due("again", x.book(), 2);
        check.due("years", x.count(2), 60);
        for (int year = 59; year >= 0; year--) {
            check.due("back", x.undo(), year);
        }
        check.due("no year left", x.undo(), -1);
        check.duePoints(x, 0, 0);
    }

    private static void promise24Went() {
        HomeRings x = Check.wishing(new int[][] {{1}, {0}, {}});
        x.best();
        x.book();
        x.wishes(0, 1, 1, 2, 0);
        x.wish(2, 0);
        x.best();
        check.due("not booked yet", x.went(1, 0), -1);
        x.book();
        check.due("year 0", x.went(0, 0), 1);
        check.due("year 0", x.went(0, 1), 0);
        check.due("year 0", x.went(0, 2), -1);
        check.due("year 1", x.went(1, 0), 2);
        check.due("year 1", x.went(1, 1), -1);
        check.due("year 1", x.went(1, 2), 0);
        check.due("no year", x.went(2, 0), -1);
        check.due("no year", x.went(-1, 0), -1);
        check.due("no year", x.went(BIG, 0), -1);
        check.due("no year", x.went(SMALL, 0), -1);
        check.due("no family", x.went(0, 3), -1);
        check.due("no family", x.went(0, -1), -1);
        check.due("no family", x.went(1, BIG), -1);
        x.undo();
        check.due("taken back", x.went(1, 0), -1);
        x.family(0, 1, 1, false);
        check.due("came later", x.went(0, 3), -1);
    }

    private static void promise25Undo() {
        HomeRings x = Check.homes(new int[][] {{1}, {0}, {3}, {2}});
        check.due("no year", x.undo(), -1);
        x.best();
        x.book();
        Check.putAll(x, 1, 0, -1, -1);
        x.book();
        x.put(2, 3);
        check.due("back to year 1", x.undo(), 1);
        check.duePlan(x, 1, 0, -1, -1);
        check.duePoints(x, -10, 10, -10, 10);
        x.in(0, false);
        x.wishes(2, 2, 0, 0, 0);
        check.due("back to year 0", x.undo(), 0);
        check.duePlan(x, 1, 0, 3, 2);
        check.duePoints(x, 0, 0, 0, 0);
        check.due("the plan of then may not close now", x.wrong(), 10);
        check.due("no year", x.undo(), -1);
        check.duePlan(x, 1, 0, 3, 2);
    }

    private static void promise25Later() {
        HomeRings x = Check.homes(new int[][] {{1}, {0}});
        x.best();
        x.book();
        x.family(0, 3, 1, false);
        x.wish(2, 0);
        x.wish(1, 2);
        x.put(2, 0);
        check.due("back", x.undo(), 0);
        check.duePlan(x, 1, 0, -1);
        x.book();
        x.set(2, 500);
        check.due("a chain behind the booking", x.chain(2), 2);
        check.due("paid", x.travel(), 2);
        check.duePoints(x, -10 + 10 - 20, 10 + 20, -10);
        check.due("only what the year paid is taken back", x.undo(), 0);
        check.duePoints(x, -10, 20, -10);
    }

    private static void promise26Row() {
        HomeRings x = Check.wishing(new int[][] {{1}, {2}, {0}});
        check.dueRow(x);
        x.best();
        check.dueRow(x);
        x.ring(1);
        check.dueRow(x, 1, 2, 0);
        check.dueRowThrows(x, BIG);
        check.dueRowThrows(x, SMALL);
        x.ring(9);
        x.chain(0);
        check.dueRow(x, 1, 2, 0);
        x.trade();
        x.book();
        x.undo();
        check.dueRow(x, 1, 2, 0);
        Check.putAll(x, -1, -1, -1);
        x.set(2, 500);
        check.due("chain", x.chain(2), 2);
        check.dueRow(x, 2, 0, 1);
    }

    /** Calls that find nothing tell no numbers: the row is that of the call before them. */
    private static void promise26RowStays() {
        HomeRings x = Check.wishing(new int[][] {{1}, {0}, {}});
        x.set(2, 500);
        x.best();
        check.due("ring", x.ring(1), 2);
        check.due("blocks", x.blocks(), 0);
        check.dueRow(x, 1, 0);
        check.due("ring", x.ring(2), 0);
        check.dueRow(x, 1, 0);
        check.due("chain", x.chain(2), 0);
        check.dueRow(x, 1, 0);
        check.due("a ring is no chain", x.travel(), -1);
        Check.putAll(x, -1, -1, -1);
        check.due("chain", x.chain(0), 1);
        check.due("blocks", x.blocks(), 2);
        check.dueRow(x, 0, 1);
        check.due("chain", x.chain(1), 1);
        check.due("chain", x.chain(2), 0);
        check.dueRow(x, 1, 0);
        check.due("the latest chain told none", x.travel(), -1);
        check.duePoints(x, 0, 0, 0);
    }
}
