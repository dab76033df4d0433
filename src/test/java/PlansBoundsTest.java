/** Promises 14 to 20, sentence by sentence: what is too small, too large, empty, full, at its edge or refused. */
public final class PlansBoundsTest {
    private static final Check check = new Check();
    private static final int NONE = HomeRings.NONE;
    private static final int BIG = Integer.MAX_VALUE;
    private static final int SMALL = Integer.MIN_VALUE;

    public static void main(String[] args) throws Exception {
        Sentences.runAll(PlansBoundsTest.class, check, 14, 20);
        check.end("PlansBoundsTest");
    }

    /** Ten families in a circle, all of whom go. */
    private static HomeRings ringOfTen() {
        HomeRings x = Check.wishing(Check.circle(10));
        for (int f = 0; f < 10; f++) {
            x.put(f, (f + 1) % 10);
        }
        return x;
    }

    // ---- 14: put

    @Sentence(promise = 14, says = "false for none such: the FAMILY")
    private static void putFamily() {
        for (int family : Check.NO_FAMILIES) {
            check.dueFalse("put(" + family + ", 0)", y -> y.put(family, 0));
            check.dueFalse("put(" + family + ", NONE)", y -> y.put(family, NONE));
        }
        check.due("the last family", Check.lived().put(2, 0), true);
    }

    @Sentence(promise = 14, says = "false for none such: the home")
    private static void putHome() {
        for (int home : new int[] {3, 10, -2, 255, BIG, SMALL}) {
            check.dueFalse("put(0, " + home + ")", y -> y.put(0, home));
            check.dueFalse("put(2, " + home + ")", y -> y.put(2, home));
        }
        check.due("the last home", Check.lived().put(0, 2), true);
    }

    @Sentence(promise = 14, says = "false for .. its own")
    private static void putOwn() {
        for (int f = 0; f < 3; f++) {
            int own = f;
            check.dueFalse("put(" + f + ", " + f + ")", y -> y.put(own, own));
        }
    }

    @Sentence(promise = 14, says = "(NONE: nowhere)")
    private static void putNowhere() {
        HomeRings x = Check.lived();
        check.due("who goes", x.put(0, NONE), true);
        check.duePlan(x, -1, 0, -1);
        check.due("who does not go", x.put(2, NONE), true);
        check.duePlan(x, -1, 0, -1);
    }

    @Sentence(promise = 14, says = "A FAMILY goes to a home by THE PLAN: it need not CLOSE")
    private static void putAny() {
        HomeRings x = Check.lived();
        x.in(2, false);
        check.due("barred, out, no wish", x.put(1, 2), true);
        check.due("to one home", x.put(0, 2), true);
        check.duePlan(x, 2, 2, -1);
        check.due("who is out", x.put(2, 1), true);
        check.duePlan(x, 2, 2, 1);
    }

    @Sentence(promise = 14, says = "THE PLAN .. stays as it is but for calls that say so")
    private static void planStays() {
        HomeRings x = Check.lived();
        Check.putAll(x, 1, 2, 0);
        x.family(0, 9, 1, false);
        x.weeks(0, 0, 1, 1);
        x.wish(3, 0);
        x.wishes(1, 2, 0, 0, 0);
        x.bar(0, 1, true);
        x.in(2, false);
        x.set(0, 8);
        x.set(1, 2);
        x.blocks();
        x.ring(0);
        x.chain(3);
        x.travel();
        x.wrong();
        check.due("it does not close", x.book(), NONE);
        check.duePlan(x, 1, 2, 0, -1);
    }

    // ---- 15: wrong

    @Sentence(promise = 15, says = "Whether THE PLAN CLOSES: 0 (none goes)")
    private static void wrongEmpty() {
        check.due("no families", new HomeRings().wrong(), 0);
        check.due("none goes", Check.farms(10).wrong(), 0);
    }

    @Sentence(promise = 15, says = "1 it does not TAKE the home")
    private static void wrongTakes() {
        HomeRings x = ringOfTen();
        check.due("all take", x.wrong(), 0);
        x.bar(9, 0, true);
        check.due("the last does not", x.wrong(), 19);
        x.bar(0, 1, true);
        check.due("the first does not", x.wrong(), 10);
        HomeRings y = Check.farms(2);
        Check.putAll(y, 1, 0);
        check.due("no wishes", y.wrong(), 10);
        y.wish(0, 1);
        check.due("one wish", y.wrong(), 11);
        y.wish(1, 0);
        check.due("two wishes", y.wrong(), 0);
        y.set(0, 8);
        y.weeks(1, 0, 1, 7);
        check.due("too few weeks", y.wrong(), 10);
    }

    @Sentence(promise = 15, says = "2 another one goes to the same home (the lesser of both is told)")
    private static void wrongSameHome() {
        HomeRings x = Check.wishing(new int[][] {{}, {0}, {0}, {0}, {0}, {0}, {0}, {0}, {0}, {0}});
        x.put(9, 0);
        x.put(8, 0);
        check.due("8 and 9", x.wrong(), 28);
        x.put(1, 0);
        check.due("three", x.wrong(), 21);
        HomeRings y = Check.wishing(new int[][] {{3}, {2}, {3}, {2}});
        Check.putAll(y, 3, 2, 3, 2);
        check.due("0 and 2, 1 and 3", y.wrong(), 20);
        y.put(0, NONE);
        check.due("1 and 3", y.wrong(), 21);
    }

    @Sentence(promise = 15, says = "3 its home is gone to, and it does not go")
    private static void wrongStays() {
        HomeRings x = Check.wishing(Check.circle(10));
        x.put(8, 9);
        check.due("the last stays", x.wrong(), 39);
        x.put(9, 0);
        check.due("the first stays", x.wrong(), 30);
        x.put(4, 5);
        check.due("the first of two", x.wrong(), 30);
        x.put(9, NONE);
        check.due("5 and 9 stay", x.wrong(), 35);
    }

    @Sentence(promise = 15, says = "4 it is in a RING of more than MOST")
    private static void wrongTooLong() {
        HomeRings x = Check.wishing(new int[][] {{1}, {0}, {}, {}, {}, {}, {}, {8}, {9}, {7}});
        Check.putAll(x, 1, 0, -1, -1, -1, -1, -1, 8, 9, 7);
        x.set(1, 3);
        check.due("as many as MOST", x.wrong(), 0);
        x.set(1, 2);
        check.due("one more", x.wrong(), 47);
        HomeRings y = ringOfTen();
        check.due("ten, MOST ten", y.wrong(), 0);
        y.set(1, 9);
        check.due("ten, MOST nine", y.wrong(), 40);
        HomeRings z = Check.wishing(new int[][] {{1}, {0}});
        z.best();
        z.set(1, 2);
        check.due("two, MOST two", z.wrong(), 0);
    }

    @Sentence(promise = 15, says = "the first reason .. and the first FAMILY for which it is so")
    private static void wrongFirstReason() {
        HomeRings x = Check.wishing(new int[][] {{1}, {2}, {0}, {4}, {3}, {3}, {7}, {}, {9}, {}});
        x.set(1, 2);
        Check.putAll(x, 1, 2, 0, 4, 3, 3, 7, -1, 7, -1);
        check.due("8 does not take it", x.wrong(), 18);
        x.put(8, NONE);
        check.due("4 and 5 to one home", x.wrong(), 24);
        x.put(5, NONE);
        check.due("7 stays", x.wrong(), 37);
        x.put(6, NONE);
        check.due("three of two", x.wrong(), 40);
    }

    // ---- 16: best

    @Sentence(promise = 16, says = "how many FAMILIES go: none")
    private static void bestEmpty() {
        check.due("no families", new HomeRings().best(), 0);
        check.due("one family", Check.farms(1).best(), 0);
        HomeRings x = Check.farms(3);
        Check.putAll(x, 1, 2, 0);
        check.due("no wishes", x.best(), 0);
        check.duePlan(x, -1, -1, -1);
        HomeRings y = ringOfTen();
        y.in(7, false);
        check.due("a broken ring", y.best(), 0);
        check.due("none goes", y.count(4), 0);
    }

    @Sentence(promise = 16, says = "with RINGS of at most MOST")
    private static void bestMost() {
        for (int length = 2; length <= 10; length++) {
            HomeRings x = Check.wishing(Check.circle(length));
            x.set(1, length);
            check.due("a ring of MOST, " + length, x.best(), length);
            check.due("closes", x.wrong(), 0);
            if (length > 2) {
                x.set(1, length - 1);
                check.due("a ring of one more than MOST, " + length, x.best(), 0);
                check.due("none goes", x.count(4), 0);
            }
        }
    }

    @Sentence(promise = 16, says = "more FAMILIES go; else the sum of their RANKS is less")
    private static void bestMoreGo() {
        HomeRings x = Check.farms(10);
        x.set(0, 1);
        for (int f = 0; f < 10; f++) {
            int near = f == 8 ? 0 : f == 9 ? 1 : f + 1;
            int last = (f + 2) % 10;
            x.wish(f, near == last ? near ^ 1 : near);
            for (int home = 0; home < 10; home++) {
                if (home != last) {
                    x.wish(f, home);
                }
            }
            x.wish(f, last);
            x.weeks(f, 0, f, f);
            x.weeks(f, 1, Math.min(near, last), Math.max(near, last));
        }
        check.due("ten to their last wishes", x.best(), 10);
        check.due("the greatest sum of all", x.count(6), 90);
        x.in(9, false);
        check.due("nine to their first wishes, but for one", x.best(), 9);
        check.due("sum", x.count(6), 17);
    }

    @Sentence(promise = 16, says = "else the sum of their RANKS is less")
    private static void bestLessSum() {
        HomeRings x = Check.wishing(new int[][] {{2, 3}, {3, 2}, {0, 1}, {1, 0}});
        check.due("all to first wishes", x.best(), 4);
        check.duePlan(x, 2, 3, 0, 1);
        HomeRings y = Check.wishing(new int[][] {{1, 2}, {2, 0}, {0, 1}});
        check.due("a ring one way", y.best(), 3);
        check.duePlan(y, 1, 2, 0);
        HomeRings z = Check.wishing(new int[][] {{2, 1}, {0, 2}, {1, 0}});
        check.due("a ring the other way", z.best(), 3);
        check.duePlan(z, 2, 0, 1);
        HomeRings w = Check.wishing(new int[][] {{2, 1}, {0}, {0}});
        check.due("one less, though a greater number", w.best(), 2);
        check.duePlan(w, 2, -1, 0);
    }

    @Sentence(promise = 16, says = "else, for the first FAMILY with unlike homes, the less number")
    private static void bestLessNumber() {
        HomeRings x = Check.wishing(new int[][] {{3, 2, 1}, {3, 2, 0}, {1, 0, 3}, {1, 0, 2}});
        check.due("sums are alike", x.best(), 4);
        check.due("sum", x.count(6), 6);
        check.duePlan(x, 2, 3, 0, 1);
        HomeRings y = Check.wishing(new int[][] {{1}, {0}, {}, {}, {}, {}, {9, 8}, {}, {6}, {5, 6}});
        check.due("6 and 8, or 6 and 9; the first are alike", y.best(), 4);
        check.duePlan(y, 1, 0, -1, -1, -1, -1, 8, -1, 6, -1);
    }

    @Sentence(promise = 16, says = "none being greater than all")
    private static void bestNoneIsGreatest() {
        HomeRings x = Check.wishing(new int[][] {{9}, {2, 9}, {}, {}, {}, {}, {}, {}, {}, {1, 0}});
        check.due("0 and 9, or 1 and 9", x.best(), 2);
        check.due("sum", x.count(6), 3);
        check.dueOf(x, 0, 4, 9);
        check.dueOf(x, 1, 4, NONE);
        check.dueOf(x, 9, 4, 0);
        HomeRings y = Check.wishing(new int[][] {{8, 9}, {}, {}, {}, {}, {}, {}, {}, {0}, {0}});
        y.wishes(0, 1, 2, 9, -1);
        y.wishes(8, 1, 1, 0, 0);
        y.wishes(9, 1, 3, 2, -1);
        check.due("0 and 8, or 0 and 9", y.best(), 2);
        check.dueOf(y, 0, 4, 8);
        check.dueOf(y, 9, 4, NONE);
    }

    @Sentence(promise = 16, says = "THE PLAN is the best of all: the one of before does not matter")
    private static void bestForgets() {
        HomeRings x = Check.wishing(new int[][] {{1, 2}, {0}, {0}});
        Check.putAll(x, 2, -1, 0);
        check.due("two", x.best(), 2);
        check.duePlan(x, 1, 0, -1);
        check.due("again", x.best(), 2);
        check.duePlan(x, 1, 0, -1);
    }

    @Sentence(promise = 16, says = "the best of all that CLOSE: ten who wish for all")
    private static void bestFull() {
        HomeRings x = Check.farms(10);
        for (int f = 0; f < 10; f++) {
            for (int home = 0; home < 10; home++) {
                x.wish(f, home);
            }
        }
        check.due("all go", x.best(), 10);
        check.due("closes", x.wrong(), 0);
        check.due("the sum of that which moves each to the next", x.count(6) <= 54, true);
        x.set(1, 2);
        check.due("all go in pairs", x.best(), 10);
        check.duePlan(x, 1, 0, 3, 2, 5, 4, 7, 6, 9, 8);
        x.in(0, false);
        check.due("one is left over", x.best(), 8);
        check.duePlan(x, -1, 2, 1, 4, 3, 6, 5, 8, 7, -1);
    }

    // ---- 17: mend

    @Sentence(promise = 17, says = "how many do: none")
    private static void mendEmpty() {
        check.due("no families", new HomeRings().mend(), 0);
        check.due("one family", Check.farms(1).mend(), 0);
        HomeRings x = Check.farms(3);
        Check.putAll(x, 1, 2, 0);
        check.due("no wishes", x.mend(), 0);
        check.duePlan(x, -1, -1, -1);
        HomeRings y = Check.wishing(Check.circle(10));
        check.due("none went by the plan", y.mend(), 0);
        check.due("all go now", y.count(4), 10);
    }

    @Sentence(promise = 17, says = "the most FAMILIES go to the home to which they go by THE PLAN: all")
    private static void mendAll() {
        HomeRings x = ringOfTen();
        check.due("all kept", x.mend(), 10);
        check.due("closes", x.wrong(), 0);
        HomeRings y = Check.wishing(new int[][] {{2, 1}, {3, 0}, {0, 3}, {1, 2}});
        Check.putAll(y, 1, 0, 3, 2);
        check.due("kept, though not the best", y.mend(), 4);
        check.duePlan(y, 1, 0, 3, 2);
    }

    @Sentence(promise = 17, says = "the most FAMILIES go to the home to which they go by THE PLAN: ahead of more that go")
    private static void mendOneKept() {
        HomeRings x = Check.wishing(Check.circle(10));
        x.wishes(0, 1, 8, 2, 1);
        x.wish(0, 1);
        x.wishes(1, 1, 1, 0, 0);
        x.wishes(9, 1, 1, 1, 0);
        for (int home = 3; home < 10; home++) {
            x.bar(0, home, true);
        }
        check.due("ten could go to first wishes", x.best(), 10);
        check.due("sum", x.count(6), 10);
        Check.putAll(x, 1, -1, -1, -1, -1, -1, -1, -1, -1, -1);
        check.due("one keeps its last wish", x.mend(), 1);
        check.duePlan(x, 1, 0, -1, -1, -1, -1, -1, -1, -1, -1);
    }

    @Sentence(promise = 17, says = "As best(): RINGS of at most MOST")
    private static void mendMost() {
        HomeRings x = ringOfTen();
        x.set(1, 9);
        check.due("one more than MOST", x.mend(), 0);
        check.due("none goes", x.count(4), 0);
        HomeRings y = Check.wishing(new int[][] {{1, 2}, {2, 0}, {0, 1}});
        Check.putAll(y, 1, 2, 0);
        y.set(1, 3);
        check.due("as many as MOST", y.mend(), 3);
        y.set(1, 2);
        check.due("one more than MOST", y.mend(), 1);
        check.duePlan(y, 1, 0, -1);
    }

    @Sentence(promise = 17, says = "of several the best")
    private static void mendTies() {
        HomeRings x = Check.wishing(new int[][] {{1}, {0}, {3, 4}, {2, 4}, {3, 2}});
        Check.putAll(x, 1, 0, -1, -1, -1);
        check.due("two kept", x.mend(), 2);
        check.due("the rest as best", x.count(4), 5);
        check.duePlan(x, 1, 0, 4, 2, 3);
        x.set(1, 2);
        check.due("two kept, and one of three pairs", x.mend(), 3);
        check.duePlan(x, 1, 0, 3, 2, -1);
    }

    @Sentence(promise = 17, says = "go to the home to which they go: who goes nowhere keeps none")
    private static void mendNowhere() {
        HomeRings x = Check.wishing(new int[][] {{1}, {0}, {}});
        check.due("none kept", x.mend(), 0);
        check.duePlan(x, 1, 0, -1);
        check.due("two kept, not three", x.mend(), 2);
    }

    @Sentence(promise = 17, says = "As best(), but of all such PLANS: homes of THE PLAN that none may go to now")
    private static void mendDroppedOut() {
        HomeRings x = Check.wishing(new int[][] {{1, 2}, {0}, {0}});
        Check.putAll(x, 1, 0, -1);
        x.in(1, false);
        check.due("1 dropped out", x.mend(), 0);
        check.duePlan(x, 2, -1, 0);
        Check.putAll(x, 1, 2, 1);
        check.due("a plan of no wishes", x.mend(), 0);
        check.duePlan(x, 2, -1, 0);
    }

    // ---- 18: trade

    @Sentence(promise = 18, says = "How many go: none")
    private static void tradeEmpty() {
        check.due("no families", new HomeRings().trade(), 0);
        HomeRings x = Check.farms(10);
        x.put(0, 9);
        check.due("no wishes", x.trade(), 0);
        check.due("none goes", x.count(4), 0);
        HomeRings y = ringOfTen();
        y.in(0, false);
        check.due("all leave, one by one", y.trade(), 0);
        check.due("none goes", y.count(4), 0);
    }

    @Sentence(promise = 18, says = "(RINGS of any length.)")
    private static void tradeAnyLength() {
        HomeRings x = Check.wishing(Check.circle(10));
        x.set(1, 2);
        check.due("ten", x.trade(), 10);
        check.due("one ring", x.count(5), 1);
        HomeRings y = Check.wishing(new int[][] {{1}, {0}});
        check.due("two", y.trade(), 2);
    }

    @Sentence(promise = 18, says = "who TAKES none of them leaves, the least number first, one by one, ahead of any RING")
    private static void tradeLeavers() {
        HomeRings x = Check.wishing(new int[][] {{3}, {0, 2}, {1}, {}});
        check.due("3 leaves, then 0; 1 shows 2 then", x.trade(), 2);
        check.duePlan(x, -1, 2, 1, -1);
        HomeRings y = Check.wishing(new int[][] {{}, {0, 2}, {0, 1}, {2, 1}});
        check.due("0 leaves; 3 behind 1 and 2", y.trade(), 2);
        check.duePlan(y, -1, 2, 1, -1);
    }

    @Sentence(promise = 18, says = "the home of its least RANK that it TAKES, of those left")
    private static void tradeLeastRank() {
        HomeRings x = Check.wishing(new int[][] {{1, 2, 3}, {0, 2, 3}, {0, 1, 3}, {0, 1, 2}});
        check.due("two pairs", x.trade(), 4);
        check.duePlan(x, 1, 0, 3, 2);
        x.bar(0, 1, true);
        check.due("0 shows 2, 1 shows 2, 2 shows 0", x.trade(), 4);
        check.duePlan(x, 2, 3, 0, 1);
        x.in(2, false);
        check.due("0 shows 3, 1 shows 3, 3 shows 0", x.trade(), 2);
        check.duePlan(x, 3, -1, -1, 0);
    }

    @Sentence(promise = 18, says = "then there is a RING of those who show: these go so, and leave")
    private static void tradeRing() {
        HomeRings x = Check.wishing(new int[][] {{1, 3}, {2}, {1}, {1, 0}});
        check.due("0 and 3 show 1, and are not in its ring", x.trade(), 4);
        check.duePlan(x, 3, 2, 1, 0);
        HomeRings y = Check.wishing(new int[][] {{9}, {0}, {1}, {2}, {3}, {4}, {5}, {6}, {9}, {8}});
        check.due("a long row of those who show leads to a pair", y.trade(), 2);
        check.duePlan(y, -1, -1, -1, -1, -1, -1, -1, -1, 9, 8);
    }

    @Sentence(promise = 18, says = "(of several the one with the least number)")
    private static void tradeSeveralRings() {
        HomeRings x = Check.wishing(new int[][] {{9}, {8}, {3}, {4}, {2}, {}, {}, {}, {1}, {0}});
        check.due("three at once", x.trade(), 7);
        check.duePlan(x, 9, 8, 3, 4, 2, -1, -1, -1, 1, 0);
    }

    @Sentence(promise = 18, says = "again and again: as many rounds as there can be")
    private static void tradeRounds() {
        HomeRings x = Check.farms(10);
        for (int f = 0; f < 10; f++) {
            for (int home = 0; home < 10; home++) {
                x.wish(f, home);
            }
        }
        check.due("five pairs, one a round", x.trade(), 10);
        check.duePlan(x, 1, 0, 3, 2, 5, 4, 7, 6, 9, 8);
        x.in(3, false);
        check.due("nine are left", x.trade(), 8);
        check.duePlan(x, 1, 0, 4, -1, 2, 6, 5, 8, 7, -1);
    }

    @Sentence(promise = 18, says = "THE PLAN is what trades come to: the one of before does not matter")
    private static void tradeForgets() {
        HomeRings x = Check.wishing(new int[][] {{1}, {0}, {0}});
        Check.putAll(x, 2, -1, 0);
        check.due("two", x.trade(), 2);
        check.duePlan(x, 1, 0, -1);
    }

    // ---- 19: blocks

    @Sentence(promise = 19, says = "0: there is none")
    private static void blocksNone() {
        check.due("no families", new HomeRings().blocks(), 0);
        check.due("no wishes", Check.farms(10).blocks(), 0);
        HomeRings x = Check.lived();
        check.dueNoChange(x, "all have their first wishes", y -> y.blocks(), 0);
        check.dueRow(x, 1, 0);
    }

    @Sentence(promise = 19, says = "less RANK than its own of THE PLAN")
    private static void blocksLess() {
        HomeRings x = Check.wishing(new int[][] {{1}, {2, 0}, {}});
        Check.putAll(x, 1, -1, -1);
        check.due("the same home is not less", x.blocks(), 0);
        Check.putAll(x, -1, 2, -1);
        check.due("a greater one is not less", x.blocks(), 0);
        x.wishes(1, 1, 2, 0, 2);
        check.due("one less", x.blocks(), 2);
        check.dueRow(x, 0, 1);
    }

    @Sentence(promise = 19, says = "(or it goes nowhere, or to no WISH)")
    private static void blocksNowhere() {
        HomeRings x = Check.wishing(new int[][] {{1}, {0}, {}});
        check.due("both nowhere", x.blocks(), 2);
        Check.putAll(x, 2, 2, -1);
        check.due("both to no wish", x.blocks(), 2);
        Check.putAll(x, -1, 2, -1);
        check.due("one of each", x.blocks(), 2);
        check.dueRow(x, 0, 1);
    }

    @Sentence(promise = 19, says = "a home that it TAKES")
    private static void blocksTakes() {
        HomeRings x = Check.wishing(new int[][] {{1}, {0}, {}});
        x.in(1, false);
        check.due("one is out", x.blocks(), 0);
        x.in(1, true);
        x.bar(1, 0, true);
        check.due("barred", x.blocks(), 0);
        x.bar(1, 0, false);
        x.weeks(0, 0, 51, 51);
        check.due("too few weeks", x.blocks(), 0);
        x.weeks(0, 0, 50, 51);
        check.due("just enough weeks", x.blocks(), 2);
    }

    @Sentence(promise = 19, says = "the one with the fewest FAMILIES")
    private static void blocksFewest() {
        HomeRings x = Check.wishing(Check.circle(10));
        check.due("ten", x.blocks(), 10);
        check.dueRow(x, 0, 1, 2, 3, 4, 5, 6, 7, 8, 9);
        x.wish(9, 1);
        check.due("nine", x.blocks(), 9);
        check.dueRow(x, 1, 2, 3, 4, 5, 6, 7, 8, 9);
        x.wish(9, 8);
        check.due("two", x.blocks(), 2);
        check.dueRow(x, 8, 9);
    }

    @Sentence(promise = 19, says = "of equal ones the first row, beginning with its least number")
    private static void blocksFirst() {
        HomeRings x = Check.wishing(new int[][] {{}, {9, 8}, {3}, {2}, {}, {}, {}, {}, {1}, {1}});
        check.due("three pairs", x.blocks(), 2);
        check.dueRow(x, 1, 8);
        HomeRings y = Check.wishing(new int[][] {{3, 1}, {3, 2}, {0}, {2, 0}});
        y.wishes(3, 1, 1, 2, 0);
        check.due("0 1 2 or 0 3 2", y.blocks(), 3);
        check.dueRow(y, 0, 1, 2);
        HomeRings z = Check.wishing(new int[][] {{2}, {0}, {1}});
        check.due("round from the least", z.blocks(), 3);
        check.dueRow(z, 0, 2, 1);
    }

    @Sentence(promise = 19, says = "A RING: ways that do not come round, or not so soon, do not count")
    private static void blocksComeRound() {
        HomeRings x = Check.wishing(new int[][] {{1, 2}, {}, {3}, {0}});
        check.due("1 goes nowhere on", x.blocks(), 3);
        check.dueRow(x, 0, 2, 3);
        HomeRings y = Check.wishing(new int[][] {{2}, {3}, {3}, {0}});
        check.due("none comes to 1", y.blocks(), 3);
        check.dueRow(y, 0, 2, 3);
        HomeRings z = Check.wishing(new int[][] {{1, 3}, {2}, {4}, {4}, {0}});
        check.due("0 1 2 4 is longer", z.blocks(), 3);
        check.dueRow(z, 0, 3, 4);
    }

    @Sentence(promise = 19, says = "(MOST does not matter.)")
    private static void blocksAnyLength() {
        HomeRings x = Check.wishing(Check.circle(10));
        x.set(1, 2);
        check.due("ten", x.blocks(), 10);
        check.due("count(3)", x.count(3), 10);
    }

    // ---- 20: ring

    @Sentence(promise = 20, says = "NONE: none such")
    private static void ringFamily() {
        for (int family : Check.NO_FAMILIES) {
            check.dueRefused("ring(" + family + ")", y -> y.ring(family));
        }
        check.due("no families", new HomeRings().ring(0), NONE);
        HomeRings x = Check.lived();
        x.put(0, NONE);
        check.due("none such, and it does not close", x.ring(3), NONE);
    }

    @Sentence(promise = 20, says = "0: it does not go")
    private static void ringStays() {
        check.dueNoChange(Check.lived(), "ring(2)", y -> y.ring(2), 0);
        check.due("none goes", Check.farms(10).ring(9), 0);
    }

    @Sentence(promise = 20, says = "0: .. or THE PLAN does not CLOSE")
    private static void ringNotClosed() {
        HomeRings x = Check.lived();
        x.put(2, 0);
        check.dueNoChange(x, "two to one home", y -> y.ring(0), 0);
        x.put(2, NONE);
        x.wishes(1, 2, 0, 0, 0);
        check.dueNoChange(x, "no wish", y -> y.ring(0), 0);
        x.wish(1, 0);
        check.due("closes again", x.ring(0), 2);
        x.put(0, NONE);
        check.dueNoChange(x, "one stays", y -> y.ring(1), 0);
        HomeRings z = Check.wishing(new int[][] {{1}, {0}, {3}, {2}});
        z.best();
        z.bar(2, 3, true);
        check.due("another ring is broken", z.ring(0), 0);
    }

    @Sentence(promise = 20, says = "(MOST does not matter)")
    private static void ringAnyLength() {
        HomeRings x = ringOfTen();
        x.set(1, 2);
        check.due("ten", x.ring(0), 10);
    }

    @Sentence(promise = 20, says = "the ROW, beginning with it: how many")
    private static void ringRound() {
        HomeRings x = ringOfTen();
        check.due("from the last round", x.ring(9), 10);
        check.dueRow(x, 9, 0, 1, 2, 3, 4, 5, 6, 7, 8);
        check.due("from the first", x.ring(0), 10);
        check.dueRow(x, 0, 1, 2, 3, 4, 5, 6, 7, 8, 9);
        HomeRings y = Check.wishing(new int[][] {{2}, {3}, {0}, {1}});
        y.best();
        check.due("two", y.ring(3), 2);
        check.dueRow(y, 3, 1);
    }
}
