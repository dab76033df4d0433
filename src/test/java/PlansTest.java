/** Promises 14 to 20: plans, rings, trades. */
public final class PlansTest {
    private static final Check check = new Check();
    private static final int BIG = Integer.MAX_VALUE;
    private static final int SMALL = Integer.MIN_VALUE;

    public static void main(String[] args) {
        promise14Put();
        promise15Wrong();
        promise16Best();
        promise16Ties();
        promise16Ten();
        promise16One();
        promise17Mend();
        promise17Ties();
        promise18Trade();
        promise18Leavers();
        promise19Blocks();
        promise19First();
        promise20Ring();
        check.end("PlansTest");
    }

    private static void promise14Put() {
        HomeRings x = Check.farms(3);
        check.due("no wish needed", x.put(0, 2), true);
        check.duePlan(x, 2, -1, -1);
        check.due("another", x.put(0, 1), true);
        check.due("own", x.put(0, 0), false);
        check.due("no home", x.put(0, 3), false);
        check.due("no home", x.put(0, -2), false);
        check.due("no family", x.put(3, 0), false);
        check.due("no family", x.put(-1, -1), false);
        check.due("no family", x.put(SMALL, BIG), false);
        check.duePlan(x, 1, -1, -1);
        check.due("nowhere", x.put(0, -1), true);
        check.duePlan(x, -1, -1, -1);
        x.put(2, 0);
        x.family(0, 1, 1, false);
        check.duePlan(x, -1, -1, 0, -1);
    }

    private static void promise15Wrong() {
        HomeRings x = Check.wishing(new int[][] {{1, 2}, {0, 2, 3}, {0, 1, 3}, {2, 1}});
        check.due("none goes", x.wrong(), 0);
        Check.putAll(x, 1, 2, 3, -1);
        check.due("3 is gone to, 0 goes", x.wrong(), 33);
        Check.putAll(x, 2, 2, -1, 1);
        check.due("lesser of both", x.wrong(), 20);
        Check.putAll(x, -1, 3, 3, -1);
        check.due("lesser of both", x.wrong(), 21);
        Check.putAll(x, 1, 2, 1, 0);
        check.due("no wish of 3 is ahead of the same home", x.wrong(), 13);
        x.bar(1, 2, true);
        check.due("the first who does not take", x.wrong(), 11);
        x.bar(1, 2, false);
        Check.putAll(x, 1, 2, 0, -1);
        check.due("closes", x.wrong(), 0);
        x.set(1, 2);
        check.due("too long", x.wrong(), 40);
        Check.putAll(x, -1, 3, 1, 2);
        check.due("too long", x.wrong(), 41);
        x.set(1, 3);
        check.due("just long enough", x.wrong(), 0);
        x.in(3, false);
        check.due("3 is out", x.wrong(), 11);
    }

    private static void promise16Best() {
        HomeRings x = Check.wishing(Check.circle(5));
        check.due("all", x.best(), 5);
        check.duePlan(x, 1, 2, 3, 4, 0);
        x.set(1, 4);
        check.due("ring too long", x.best(), 0);
        check.duePlan(x, -1, -1, -1, -1, -1);
        x.set(1, 5);
        check.due("just long enough", x.best(), 5);
        x.in(2, false);
        check.due("broken", x.best(), 0);
        HomeRings y = Check.wishing(new int[][] {{1, 3}, {2}, {0, 3}, {0}});
        check.due("more families ahead of ranks", y.best(), 4);
        check.duePlan(y, 1, 2, 3, 0);
        y.set(1, 3);
        check.due("three at most", y.best(), 3);
        check.duePlan(y, 1, 2, 0, -1);
        y.set(1, 2);
        check.due("pairs", y.best(), 2);
        check.duePlan(y, 3, -1, -1, 0);
        check.due("none", new HomeRings().best(), 0);
    }

    private static void promise16Ties() {
        HomeRings x = Check.wishing(new int[][] {{1, 2}, {0, 2}, {0, 1}});
        x.set(1, 2);
        check.due("pairs of three", x.best(), 2);
        check.duePlan(x, 1, 0, -1);
        HomeRings y = Check.wishing(new int[][] {{2, 1, 3}, {3, 0, 2}, {0, 3, 1}, {1, 2, 0}});
        check.due("least sum", y.best(), 4);
        check.duePlan(y, 2, 3, 0, 1);
        HomeRings z = Check.wishing(new int[][] {{3, 2}, {2, 3}, {1, 0}, {0, 1}});
        check.due("least sum", z.best(), 4);
        check.duePlan(z, 3, 2, 1, 0);
        HomeRings w = Check.wishing(new int[][] {{2, 1}, {2, 0}, {0, 1}});
        w.set(1, 2);
        check.due("least sum ahead of the least number", w.best(), 2);
        check.duePlan(w, 2, -1, 0);
        HomeRings v = Check.wishing(new int[][] {{}, {2, 3}, {1}, {1}, {5}, {4}});
        v.wishes(1, 1, 2, 3, -1);
        v.wishes(3, 1, 1, 1, 0);
        check.due("none is greater than all", v.best(), 4);
        check.duePlan(v, -1, 3, -1, 1, 5, 4);
        v.wishes(2, 0, 2, 3, -2);
        v.wishes(3, 0, 2, 2, -1);
        check.due("a ring of three", v.best(), 5);
        check.duePlan(v, -1, 3, 1, 2, 5, 4);
    }

    private static void promise16Ten() {
        HomeRings x = Check.wishing(Check.circle(10));
        check.due("ten", x.best(), 10);
        x.set(1, 9);
        check.due("nine at most", x.best(), 0);
        HomeRings y = Check.farms(10);
        for (int f = 0; f < 10; f++) {
            for (int home = 0; home < 10; home++) {
                y.wish(f, home);
            }
        }
        for (int longest = 2; longest <= 10; longest++) {
            y.set(1, longest);
            check.due("all wish all", y.best(), 10);
            check.due("all wish all", y.wrong(), 0);
        }
        y.set(1, 2);
        y.best();
        check.duePlan(y, 1, 0, 3, 2, 5, 4, 7, 6, 9, 8);
        y.in(9, false);
        check.due("nine, in pairs", y.best(), 8);
        check.due("nine, kept", y.mend(), 8);
    }

    private static void promise16One() {
        HomeRings x = Check.farms(1);
        check.due("one alone, best", x.best(), 0);
        check.duePlan(x, -1);
        check.due("one alone, mend", x.mend(), 0);
        check.duePlan(x, -1);
        check.due("one alone, trade", x.trade(), 0);
        check.due("one alone, blocks", x.blocks(), 0);
        check.due("one alone, ring", x.ring(0), 0);
        check.due("one alone, chain", x.chain(0), 0);
    }

    private static void promise17Mend() {
        HomeRings x = Check.wishing(new int[][] {{1, 2}, {0, 2}, {0, 3}, {2}});
        Check.putAll(x, 1, 0, 3, 2);
        x.in(3, false);
        check.due("kept ahead of more families", x.mend(), 2);
        check.duePlan(x, 1, 0, -1, -1);
        check.due("best goes further", x.best(), 3);
        check.duePlan(x, 1, 2, 0, -1);
        x.in(3, true);
        check.due("all kept", x.mend(), 3);
        check.duePlan(x, 1, 2, 0, -1);
        x.set(1, 2);
        check.due("too long now: 0 may keep its home", x.mend(), 1);
        check.duePlan(x, 1, 0, 3, 2);
        Check.putAll(x, -1, -1, -1, -1);
        check.due("who goes nowhere keeps nothing", x.mend(), 0);
        check.due("as best", x.count(4), 4);
        check.due("none", new HomeRings().mend(), 0);
    }

    private static void promise17Ties() {
        HomeRings x = Check.wishing(new int[][] {{1, 2}, {2, 0}, {0, 1}});
        x.set(1, 2);
        Check.putAll(x, 1, 2, 0);
        check.due("one of three is kept", x.mend(), 1);
        check.duePlan(x, 1, 0, -1);
        HomeRings y = Check.wishing(new int[][] {{1}, {0, 2}, {3, 1}, {2}});
        Check.putAll(y, -1, 2, 1, -1);
        check.due("kept", y.mend(), 2);
        check.duePlan(y, -1, 2, 1, -1);
        Check.putAll(y, -1, 2, -1, -1);
        check.due("one kept is more than four that go", y.mend(), 1);
        check.duePlan(y, -1, 2, 1, -1);
        Check.putAll(y, 3, 3, -1, 0);
        check.due("of those with none kept the best", y.mend(), 0);
        check.duePlan(y, 1, 0, 3, 2);
    }

    private static void promise18Trade() {
        HomeRings x = Check.wishing(new int[][] {{1, 2}, {2, 0}, {1, 0}, {0}});
        x.put(3, 0);
        check.due("first wishes", x.trade(), 2);
        check.duePlan(x, -1, 2, 1, -1);
        HomeRings y = Check.wishing(new int[][] {{1, 2, 3}, {0, 2}, {0, 3}, {1, 2}});
        check.due("two rings", y.trade(), 4);
        check.duePlan(y, 1, 0, 3, 2);
        HomeRings z = Check.wishing(Check.circle(10));
        z.set(1, 2);
        check.due("rings of any length", z.trade(), 10);
        check.due("too long for MOST", z.wrong(), 40);
        HomeRings w = Check.wishing(new int[][] {{3}, {2}, {1}, {0}});
        w.in(2, false);
        check.due("out", w.trade(), 2);
        check.duePlan(w, 3, -1, -1, 0);
        w.bar(0, 3, true);
        check.due("barred", w.trade(), 0);
        check.duePlan(w, -1, -1, -1, -1);
        check.due("none", new HomeRings().trade(), 0);
    }

    private static void promise18Leavers() {
        HomeRings x = Check.wishing(new int[][] {{3, 1}, {2, 0}, {3}, {}});
        check.due("3 leaves, then 2, then 0 and 1 turn to one another", x.trade(), 2);
        check.duePlan(x, 1, 0, -1, -1);
        HomeRings y = Check.wishing(new int[][] {{1}, {2}, {3}, {}});
        check.due("all leave", y.trade(), 0);
        HomeRings z = Check.wishing(new int[][] {{1, 2}, {2, 0}, {0, 1}});
        z.bar(0, 1, true);
        check.due("who can't go shows the next", z.trade(), 2);
        check.duePlan(z, 2, -1, 0);
    }

    private static void promise19Blocks() {
        HomeRings x = Check.wishing(new int[][] {{1, 2}, {2, 0}, {0, 1}});
        check.due("a ring of three or pairs: pairs", x.blocks(), 2);
        check.dueRow(x, 0, 1);
        Check.putAll(x, 2, -1, 0);
        check.due("only three do better", x.blocks(), 2);
        check.dueRow(x, 0, 1);
        Check.putAll(x, 2, 0, 1);
        check.due("all three better", x.blocks(), 3);
        check.dueRow(x, 0, 1, 2);
        x.set(1, 2);
        check.due("MOST does not matter", x.blocks(), 3);
        Check.putAll(x, 1, 2, 0);
        check.due("none", x.blocks(), 0);
        check.dueRow(x, 0, 1, 2);
        check.duePlan(x, 1, 2, 0);
        HomeRings y = Check.wishing(new int[][] {{1}, {0}, {}});
        Check.putAll(y, 2, 2, 0);
        check.due("to no wish is as nowhere", y.blocks(), 2);
        check.dueRow(y, 0, 1);
        y.bar(0, 1, true);
        check.due("must take", y.blocks(), 0);
        HomeRings z = Check.wishing(new int[][] {{1}, {0}});
        z.put(0, 1);
        check.due("the same home is not less", z.blocks(), 0);
        check.due("none, and no row before it", z.count(3), 0);
        check.due("none", new HomeRings().blocks(), 0);
    }

    private static void promise19First() {
        HomeRings x = Check.wishing(new int[][] {{4}, {3}, {1}, {2}, {5}, {0}});
        check.due("two rings of three", x.blocks(), 3);
        check.dueRow(x, 0, 4, 5);
        HomeRings y = Check.wishing(new int[][] {{3, 1}, {2}, {0}, {2}});
        check.due("0 1 2 ahead of 0 3 2", y.blocks(), 3);
        check.dueRow(y, 0, 1, 2);
        HomeRings z = Check.wishing(new int[][] {{1}, {2}, {0, 3}, {2}});
        check.due("fewest", z.blocks(), 2);
        check.dueRow(z, 2, 3);
        HomeRings w = Check.wishing(Check.circle(10));
        check.due("ten", w.blocks(), 10);
        check.dueRow(w, 0, 1, 2, 3, 4, 5, 6, 7, 8, 9);
    }

    private static void promise20Ring() {
        HomeRings x = Check.wishing(new int[][] {{2}, {3}, {4}, {1}, {0}, {0}});
        x.best();
        check.due("three", x.ring(4), 3);
        check.dueRow(x, 4, 0, 2);
        check.due("two", x.ring(3), 2);
        check.dueRow(x, 3, 1);
        check.due("no family", x.ring(6), -1);
        check.due("no family", x.ring(-1), -1);
        check.due("no family", x.ring(SMALL), -1);
        check.dueRow(x, 3, 1);
        check.due("does not go", x.ring(5), 0);
        check.dueRow(x, 3, 1);
        x.set(1, 2);
        check.due("MOST does not matter", x.ring(0), 3);
        check.dueRow(x, 0, 2, 4);
        x.put(5, 0);
        check.due("does not close", x.ring(1), 0);
        check.dueRow(x, 0, 2, 4);
        x.put(5, -1);
        check.due("closes", x.ring(1), 2);
        x.in(4, false);
        check.due("one of another ring is out", x.ring(1), 0);
    }
}
