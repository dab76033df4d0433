import java.util.ArrayList;
import java.util.List;
import java.util.function.Consumer;

/** Promises 21 to 26, sentence by sentence: what is too small, too large, empty, full, at its edge or refused. */
public final class PointsBoundsTest {
    private static final Check check = new Check();
    private static final int NONE = HomeRings.NONE;
    private static final int BIG = Integer.MAX_VALUE;
    private static final int SMALL = Integer.MIN_VALUE;
    private static final int YEARS = 60;

    public static void main(String[] args) throws Exception {
        Sentences.runAll(PointsBoundsTest.class, check, 21, 26);
        check.end("PointsBoundsTest");
    }

    /** Farms as wished, and a LIMIT that lets each pay. */
    private static HomeRings wishing(int[][] wishes) {
        HomeRings x = Check.wishing(wishes);
        x.set(2, 500);
        return x;
    }

    /** Two families that went to one another's homes in as many years as told. */
    private static HomeRings booked(int years) {
        HomeRings x = Check.homes(new int[][] {{1}, {0}});
        for (int year = 0; year < years; year++) {
            Check.putAll(x, 1, 0);
            x.book();
        }
        return x;
    }

    // ---- 21: chain

    @Sentence(promise = 21, says = "NONE: no such FAMILY")
    private static void chainFamily() {
        for (int family : Check.NO_FAMILIES) {
            check.dueRefused("chain(" + family + ")", y -> y.chain(family));
        }
        check.due("no families", new HomeRings().chain(0), NONE);
    }

    @Sentence(promise = 21, says = "NONE: .. or it goes")
    private static void chainGoes() {
        check.dueRefused("chain(0)", y -> y.chain(0));
        HomeRings x = wishing(new int[][] {{1}, {}, {}});
        x.put(0, 2);
        check.due("it goes to no wish", x.chain(0), NONE);
        x.put(0, NONE);
        check.due("it goes no more", x.chain(0), 1);
    }

    @Sentence(promise = 21, says = "0: none can")
    private static void chainNone() {
        check.dueNoChange(Check.lived(), "all others go", y -> y.chain(2), 0);
        check.due("one family", Check.farms(1).chain(0), 0);
        HomeRings x = wishing(new int[][] {{}, {0}});
        check.due("no wishes", x.chain(0), 0);
        x.wish(0, 1);
        x.in(0, false);
        check.due("out", x.chain(0), 0);
        x.in(0, true);
        x.bar(0, 1, true);
        check.due("barred", x.chain(0), 0);
        check.due("count(3)", x.count(3), 0);
    }

    @Sentence(promise = 21, says = "POINTS of each that goes must not be below LIMIT's contrary: LIMIT 0")
    private static void chainLimitZero() {
        HomeRings x = Check.homes(new int[][] {{1}, {0}, {}});
        check.due("nothing to pay with", x.chain(0), 0);
        x.set(2, 20);
        x.chain(0);
        check.due("paid", x.travel(), 1);
        x.set(2, 0);
        x.wish(1, 2);
        check.due("20 are too few for 30, enough for 10", x.chain(1), 1);
        check.dueRow(x, 1, 0);
        x.travel();
        check.duePoints(x, -10, 10, 0);
        check.due("10 are just enough for 10", x.chain(1), 1);
        x.travel();
        check.duePoints(x, 0, 0, 0);
        check.due("none are left", x.chain(1), 0);
    }

    @Sentence(promise = 21, says = "POINTS of each that goes must not be below LIMIT's contrary: LIMIT 500")
    private static void chainLimitFull() {
        HomeRings x = new HomeRings();
        x.family(0, 1, 1, false);
        x.family(0, 5, 1, false);
        x.wish(0, 1);
        x.set(2, 500);
        for (int i = 0; i < 10; i++) {
            check.due("50 more are owed", x.chain(0), 1);
            check.due("paid", x.travel(), 1);
        }
        check.duePoints(x, -500, 500);
        check.due("no more", x.chain(0), 0);
        check.due("no more", x.travel(), NONE);
        check.duePoints(x, -500, 500);
    }

    @Sentence(promise = 21, says = "must not be below LIMIT's contrary: at it, and one below")
    private static void chainLimitEdge() {
        HomeRings x = Check.homes(new int[][] {{}, {}, {0}, {2}});
        x.set(2, 9);
        check.due("one below for the first", x.chain(2), 0);
        x.set(2, 10);
        check.due("at it for the first", x.chain(2), 1);
        HomeRings y = Check.homes(new int[][] {{2}, {0}, {}});
        y.set(2, 19);
        check.due("0 is paid 10 and pays 30: one below", y.chain(1), 1);
        check.dueRow(y, 1, 0);
        y.set(2, 20);
        check.due("at it", y.chain(1), 2);
        check.dueRow(y, 1, 0, 2);
    }

    @Sentence(promise = 21, says = "(each being paid ahead of paying)")
    private static void chainPaidAhead() {
        HomeRings x = Check.homes(new int[][] {{}, {0}, {1}, {2}});
        x.set(2, 30);
        check.due("3 pays 30; 2 and 1 pay of what they are paid", x.chain(3), 3);
        x.set(2, 20);
        check.due("2 is the first, and not paid", x.chain(2), 2);
        x.set(2, 19);
        check.due("one point too few", x.chain(2), 0);
    }

    @Sentence(promise = 21, says = "the last one stays")
    private static void chainLastPaysNothing() {
        HomeRings x = Check.homes(new int[][] {{1}, {2}, {0}});
        x.set(2, 20);
        x.chain(0);
        x.travel();
        check.duePoints(x, -20, -10, 30);
        HomeRings y = Check.homes(new int[][] {{1}, {0}, {1}});
        for (int i = 0; i < 3; i++) {
            Check.putAll(y, 1, 0, -1);
            y.book();
        }
        y.set(2, 20);
        check.duePoints(y, -30, 30, 0);
        check.due("0 owes more than LIMIT, and stays", y.chain(2), 2);
        check.dueRow(y, 2, 1, 0);
    }

    @Sentence(promise = 21, says = "along others that do not")
    private static void chainOthersStay() {
        HomeRings x = wishing(new int[][] {{1, 2}, {3}, {}, {}, {}});
        check.due("all stay", x.chain(0), 2);
        check.dueRow(x, 0, 1, 3);
        x.put(1, 4);
        check.due("1 goes", x.chain(0), 1);
        check.dueRow(x, 0, 2);
        x.put(2, 4);
        check.due("2 goes too", x.chain(0), 0);
        x.put(1, NONE);
        x.put(3, 4);
        check.due("3 goes, 1 does not", x.chain(0), 1);
        check.dueRow(x, 0, 1);
    }

    @Sentence(promise = 21, says = "and to whose homes none goes by it")
    private static void chainHomesLeft() {
        HomeRings x = wishing(new int[][] {{1}, {2}, {}, {}});
        x.put(3, 2);
        check.due("2 is gone to", x.chain(0), 1);
        check.dueRow(x, 0, 1);
        x.put(3, 1);
        check.due("1 is gone to", x.chain(0), 0);
        x.put(3, 0);
        check.due("only the first one's home is", x.chain(0), 2);
    }

    @Sentence(promise = 21, says = "each FAMILY once")
    private static void chainOnce() {
        HomeRings x = wishing(Check.circle(10));
        check.due("round, but not to the first again", x.chain(3), 9);
        check.dueRow(x, 3, 4, 5, 6, 7, 8, 9, 0, 1, 2);
        HomeRings y = wishing(new int[][] {{1}, {2}, {1}});
        check.due("not to 1 again", y.chain(0), 2);
        check.dueRow(y, 0, 1, 2);
    }

    @Sentence(promise = 21, says = "each FAMILY once: ten who wish for all")
    private static void chainFull() {
        HomeRings x = Check.farms(10);
        x.set(2, 500);
        for (int f = 0; f < 10; f++) {
            for (int home = 9; home >= 0; home--) {
                x.wish(f, home);
            }
        }
        check.due("all but the last go", x.chain(4), 9);
        check.dueRow(x, 4, 0, 1, 2, 3, 5, 6, 7, 8, 9);
        for (int f = 0; f < 10; f++) {
            x.wishes(f, 1, f == 4 || f == 5 ? 1 : 0, f + 1, 0);
        }
        check.due("a short one behind it", x.chain(4), 2);
        check.dueRow(x, 4, 5, 6);
    }

    @Sentence(promise = 21, says = "The longest one")
    private static void chainLongest() {
        HomeRings x = wishing(new int[][] {{1, 2}, {}, {3}, {}});
        check.due("two, though 1 is less", x.chain(0), 2);
        check.dueRow(x, 0, 2, 3);
        check.due("one", x.chain(2), 1);
        check.dueRow(x, 2, 3);
        HomeRings z = wishing(new int[][] {{}, {0, 2}, {3}, {}});
        check.due("two, though 0 is less", z.chain(1), 2);
        check.dueRow(z, 1, 2, 3);
        HomeRings y = wishing(new int[][] {{9, 1}, {2, 9}, {9}, {}, {}, {}, {}, {}, {}, {}});
        check.due("three", y.chain(0), 3);
        check.dueRow(y, 0, 1, 2, 9);
    }

    @Sentence(promise = 21, says = "of equal ones the first row")
    private static void chainFirst() {
        HomeRings x = wishing(new int[][] {{9, 8}, {}, {}, {}, {}, {}, {}, {}, {}, {}});
        check.due("the less number, not the less rank", x.chain(0), 1);
        check.dueRow(x, 0, 8);
        HomeRings y = wishing(new int[][] {{3, 2}, {}, {4, 1}, {1}, {}});
        check.due("0 2 1 ahead of 0 2 4 and 0 3 1", y.chain(0), 2);
        check.dueRow(y, 0, 2, 1);
    }

    // ---- 22: travel

    private static HomeRings withChain() {
        HomeRings x = Check.homes(new int[][] {{1}, {2, 0}, {}});
        x.set(2, 500);
        x.chain(0);
        return x;
    }

    /** The calls that may stand between chain() and travel(), also those that tell NONE or throw. */
    private static List<Consumer<HomeRings>> callsThatAsk() {
        List<Consumer<HomeRings>> calls = new ArrayList<>();
        for (int what = -1; what < 8; what++) {
            int is = what;
            calls.add(x -> x.count(is));
        }
        calls.add(x -> check.dueOf(x, 0, 3, 0));
        calls.add(x -> check.dueOfThrows(x, 3, 0));
        calls.add(x -> check.dueOfThrows(x, 0, 8));
        for (int home : new int[] {0, 1, 3}) {
            calls.add(x -> x.rank(0, home));
            calls.add(x -> x.can(0, home));
            calls.add(x -> x.week(0, home));
        }
        calls.add(x -> x.wrong());
        calls.add(x -> x.went(0, 0));
        calls.add(x -> x.went(-1, 3));
        calls.add(x -> x.row(0));
        calls.add(x -> check.dueRowThrows(x, 3));
        return calls;
    }

    /** The calls that may not, each where it is met and where it is refused. */
    private static List<Consumer<HomeRings>> callsThatDo() {
        List<Consumer<HomeRings>> calls = new ArrayList<>();
        calls.add(x -> x.family(0, 1, 1, false));
        calls.add(x -> x.family(4, 1, 1, false));
        calls.add(x -> x.weeks(0, 0, 0, 51));
        calls.add(x -> x.weeks(0, 2, 0, 51));
        calls.add(x -> x.wish(0, 2));
        calls.add(x -> x.wish(0, 0));
        calls.add(x -> x.wishes(2, 2, 0, 0, 0));
        calls.add(x -> x.wishes(2, 1, -1, 0, 0));
        calls.add(x -> x.wishes(2, 1, 21, 0, 0));
        calls.add(x -> x.bar(0, 1, false));
        calls.add(x -> x.bar(0, 0, false));
        calls.add(x -> x.in(0, true));
        calls.add(x -> x.in(3, true));
        calls.add(x -> x.set(0, 2));
        calls.add(x -> x.set(0, 9));
        calls.add(x -> x.put(0, NONE));
        calls.add(x -> x.put(0, 0));
        calls.add(x -> x.best());
        calls.add(x -> x.mend());
        calls.add(x -> x.trade());
        calls.add(x -> x.blocks());
        calls.add(x -> x.ring(0));
        calls.add(x -> x.ring(3));
        calls.add(x -> x.chain(3));
        calls.add(x -> x.chain(2));
        calls.add(x -> x.book());
        calls.add(x -> x.undo());
        return calls;
    }

    @Sentence(promise = 22, says = "NONE: some other call was behind it but count(), of(), rank(), can(), week(), wrong(), went(), row()")
    private static void travelBehindCallsThatAsk() {
        List<Consumer<HomeRings>> calls = callsThatAsk();
        for (int i = 0; i < calls.size(); i++) {
            HomeRings x = withChain();
            calls.get(i).accept(x);
            check.due("behind call " + i, x.travel(), 2);
            check.duePoints(x, -20, -10, 30);
        }
        HomeRings x = withChain();
        for (Consumer<HomeRings> call : calls) {
            call.accept(x);
        }
        check.due("behind all of them", x.travel(), 2);
    }

    @Sentence(promise = 22, says = "NONE: some other call (also a refused one) was behind it")
    private static void travelBehindOtherCalls() {
        List<Consumer<HomeRings>> calls = callsThatDo();
        for (int i = 0; i < calls.size(); i++) {
            HomeRings x = withChain();
            calls.get(i).accept(x);
            check.due("behind call " + i, x.travel(), NONE);
            check.duePoints(x, 0, 0, 0);
        }
    }

    @Sentence(promise = 22, says = "NONE: .. or there was none")
    private static void travelWithoutChain() {
        check.due("a new object", new HomeRings().travel(), NONE);
        check.dueRefused("the row is that of a ring", y -> y.travel());
        HomeRings x = wishing(Check.circle(3));
        x.blocks();
        check.due("the row is that of blocks()", x.travel(), NONE);
        check.duePoints(x, 0, 0, 0);
    }

    @Sentence(promise = 22, says = "The ROW of the latest chain(), if it told one")
    private static void travelOfLatest() {
        HomeRings x = withChain();
        check.due("the latest told none", x.chain(2), 0);
        check.dueRow(x, 0, 1, 2);
        check.due("so none is paid", x.travel(), NONE);
        check.due("told", x.chain(0), 2);
        check.due("told later", x.chain(1), 1);
        check.dueRow(x, 1, 0);
        check.due("the latest is paid", x.travel(), 1);
        check.duePoints(x, 10, -10, 0);
    }

    @Sentence(promise = 22, says = "some other call was behind it: travel() itself")
    private static void travelTwice() {
        HomeRings x = withChain();
        check.due("once", x.travel(), 2);
        check.dueNoChange(x, "twice", y -> y.travel(), NONE);
        check.duePoints(x, -20, -10, 30);
    }

    @Sentence(promise = 22, says = "POINTS are paid as told there: how many go")
    private static void travelFull() {
        HomeRings x = wishing(Check.circle(10));
        x.chain(0);
        check.due("nine", x.travel(), 9);
        check.duePoints(x, -95, 0, 0, 0, 0, 0, 0, 0, 0, 95);
        check.due("none goes by the plan", x.count(4), 0);
        check.dueRow(x, 0, 1, 2, 3, 4, 5, 6, 7, 8, 9);
    }

    // ---- 23: book

    @Sentence(promise = 23, says = "The year is booked, if THE PLAN CLOSES: none goes")
    private static void bookEmpty() {
        HomeRings x = new HomeRings();
        check.due("no families", x.book(), 0);
        check.due("year", x.count(2), 1);
        HomeRings y = Check.farms(10);
        check.due("none goes", y.book(), 0);
        check.due("year", y.count(2), 1);
    }

    @Sentence(promise = 23, says = "NONE: it does not [CLOSE]")
    private static void bookNotClosed() {
        HomeRings x = Check.lived();
        x.put(2, 0);
        check.dueNoChange(x, "two to one home", y -> y.book(), NONE);
        x.put(2, NONE);
        x.put(0, NONE);
        check.dueNoChange(x, "one stays", y -> y.book(), NONE);
        HomeRings z = Check.lived();
        z.in(0, false);
        check.dueNoChange(z, "one is out", y -> y.book(), NONE);
    }

    @Sentence(promise = 23, says = "(MOST does not matter)")
    private static void bookAnyLength() {
        HomeRings x = Check.wishing(Check.circle(10));
        x.best();
        x.set(1, 2);
        check.due("ten", x.book(), 10);
        check.due("year", x.count(2), 1);
    }

    @Sentence(promise = 23, says = "NONE: .. 60 years were booked (asked first)")
    private static void bookSixty() {
        HomeRings x = booked(YEARS - 1);
        Check.putAll(x, 1, 0);
        check.due("the sixtieth", x.book(), 2);
        check.duePoints(x, -600, 600);
        check.due("the next, none goes", x.book(), NONE);
        Check.putAll(x, 1, 0);
        check.due("the next, two go", x.book(), NONE);
        x.put(0, NONE);
        check.due("the next, it does not close", x.book(), NONE);
        check.duePlan(x, -1, 0);
        check.duePoints(x, -600, 600);
        check.due("year", x.count(2), YEARS);
    }

    @Sentence(promise = 23, says = "60 years were booked: one taken back may be booked again")
    private static void bookBehindUndo() {
        HomeRings x = booked(YEARS);
        check.due("taken back", x.undo(), YEARS - 1);
        check.due("booked again", x.book(), 2);
        check.due("full again", x.book(), NONE);
        check.due("year", x.count(2), YEARS);
    }

    @Sentence(promise = 23, says = "each that goes pays WORTH to whose home it is (LIMIT is not named)")
    private static void bookPays() {
        HomeRings x = Check.homes(Check.circle(3));
        x.best();
        check.due("three", x.book(), 3);
        check.duePoints(x, -10, -10, 20);
        check.due("below LIMIT's contrary", x.best(), 3);
        check.due("all the same", x.book(), 3);
        check.duePoints(x, -20, -20, 40);
    }

    @Sentence(promise = 23, says = "none goes then; the next year")
    private static void bookClears() {
        HomeRings x = Check.lived();
        check.due("two", x.book(), 2);
        check.duePlan(x, -1, -1, -1);
        check.due("count(4)", x.count(4), 0);
        check.due("year", x.count(2), 2);
        check.dueRow(x, 1, 0);
    }

    // ---- 24: went

    @Sentence(promise = 24, says = "NONE .. or none such: the year")
    private static void wentYear() {
        HomeRings x = Check.lived();
        check.due("the first year", x.went(0, 0), 1);
        for (int year : new int[] {-1, 1, 2, 60, BIG, SMALL, 0x10000000, 429496730}) {
            check.due("went(" + year + ", 0)", x.went(year, 0), NONE);
        }
        HomeRings y = booked(YEARS);
        check.due("the last year", y.went(59, 1), 0);
        check.due("behind the last", y.went(60, 1), NONE);
    }

    @Sentence(promise = 24, says = "NONE .. or none such: the FAMILY")
    private static void wentFamily() {
        HomeRings x = Check.lived();
        x.book();
        for (int family : Check.NO_FAMILIES) {
            check.due("went(0, " + family + ")", x.went(0, family), NONE);
            check.due("went(1, " + family + ")", x.went(1, family), NONE);
        }
        check.due("no families", new HomeRings().went(0, 0), NONE);
    }

    @Sentence(promise = 24, says = "NONE if it did not")
    private static void wentNowhere() {
        HomeRings x = Check.lived();
        check.due("it did not", x.went(0, 2), NONE);
        x.family(0, 1, 1, false);
        check.due("it came later", x.went(0, 3), NONE);
        check.due("it did", x.went(0, 1), 0);
    }

    @Sentence(promise = 24, says = "in a year that was booked: not in one taken back")
    private static void wentTakenBack() {
        HomeRings x = booked(2);
        check.due("booked", x.went(1, 0), 1);
        x.undo();
        check.due("taken back", x.went(1, 0), NONE);
        check.due("the one before stands", x.went(0, 0), 1);
        Check.putAll(x, -1, -1);
        x.book();
        check.due("booked anew, none went", x.went(1, 0), NONE);
    }

    // ---- 25: undo

    @Sentence(promise = 25, says = "NONE without one")
    private static void undoNone() {
        check.due("a new object", new HomeRings().undo(), NONE);
        HomeRings x = Check.lived();
        check.due("the only one", x.undo(), 0);
        check.dueNoChange(x, "no more", y -> y.undo(), NONE);
        x.put(0, NONE);
        check.due("a booking that was refused", x.book(), NONE);
        check.dueNoChange(x, "is none", y -> y.undo(), NONE);
    }

    @Sentence(promise = 25, says = "The latest year that was booked is taken back: the year that it is")
    private static void undoAll() {
        HomeRings x = booked(YEARS);
        for (int year = YEARS - 1; year >= 0; year--) {
            check.due("year", x.undo(), year);
        }
        check.duePoints(x, 0, 0);
        check.due("no more", x.undo(), NONE);
        check.due("count(2)", x.count(2), 0);
    }

    @Sentence(promise = 25, says = "POINTS")
    private static void undoPoints() {
        HomeRings x = booked(3);
        check.duePoints(x, -30, 30);
        x.undo();
        check.duePoints(x, -20, 20);
        x.book();
        check.duePoints(x, -30, 30);
        x.undo();
        x.undo();
        x.undo();
        check.duePoints(x, 0, 0);
    }

    @Sentence(promise = 25, says = "THE PLAN is that of then")
    private static void undoPlan() {
        HomeRings x = Check.wishing(Check.circle(10));
        x.best();
        x.book();
        x.book();
        Check.putAll(x, 5, 5, 5, 5, 5, -1, 5, 5, 5, 5);
        check.due("back", x.undo(), 1);
        check.due("none went then", x.count(4), 0);
        x.in(9, false);
        check.due("back", x.undo(), 0);
        check.duePlan(x, 1, 2, 3, 4, 5, 6, 7, 8, 9, 0);
        check.due("it does not close now", x.wrong(), 18);
    }

    @Sentence(promise = 25, says = "(FAMILIES that came later go nowhere)")
    private static void undoLater() {
        HomeRings x = booked(1);
        for (int f = 2; f < 10; f++) {
            x.family(0, 9, 1, false);
            x.put(f, 0);
        }
        check.due("back", x.undo(), 0);
        check.duePlan(x, 1, 0, -1, -1, -1, -1, -1, -1, -1, -1);
        check.duePoints(x, 0, 0, 0, 0, 0, 0, 0, 0, 0, 0);
    }

    @Sentence(promise = 25, says = "The latest year that was booked is taken back: one that none went in")
    private static void undoEmptyYear() {
        HomeRings x = new HomeRings();
        x.book();
        check.due("no families then", x.undo(), 0);
        x.family(0, 1, 1, false);
        check.due("none went", x.book(), 0);
        check.due("back", x.undo(), 0);
        check.duePlan(x, -1);
        check.duePoints(x, 0);
    }

    // ---- 26: row

    @Sentence(promise = 26, says = "NoSuchElementException: none such (no ROW)")
    private static void rowEmpty() {
        HomeRings x = new HomeRings();
        for (int i : new int[] {0, 1, -1, BIG, SMALL}) {
            check.dueRowThrows(x, i);
        }
        x.best();
        x.blocks();
        x.chain(0);
        x.ring(0);
        check.dueRowThrows(x, 0);
    }

    @Sentence(promise = 26, says = "NoSuchElementException: none such")
    private static void rowNumbers() {
        HomeRings x = Check.lived();
        String before = State.of(x);
        for (int i : new int[] {-1, 2, 3, 10, BIG, SMALL}) {
            check.dueRowThrows(x, i);
        }
        check.due("nothing changed", State.of(x).equals(before), true);
        check.due("the first", x.row(0), 1);
        check.due("the last", x.row(1), 0);
    }

    @Sentence(promise = 26, says = "Number i of the ROW: ten")
    private static void rowFull() {
        HomeRings x = wishing(Check.circle(10));
        x.best();
        x.ring(5);
        check.dueRow(x, 5, 6, 7, 8, 9, 0, 1, 2, 3, 4);
        check.dueRowThrows(x, 11);
    }

    @Sentence(promise = 26, says = "ROW: numbers told last: a shorter one behind a longer one")
    private static void rowShorter() {
        HomeRings x = wishing(new int[][] {{1}, {2}, {0}, {4}, {3}});
        x.best();
        x.ring(0);
        check.dueRow(x, 0, 1, 2);
        x.ring(3);
        check.dueRow(x, 3, 4);
        x.ring(2);
        check.dueRow(x, 2, 0, 1);
    }

    @Sentence(promise = 26, says = "ROW: numbers told last by a call that says so: 0 and NONE tell none")
    private static void rowStays() {
        check.dueNoChange(Check.lived(), "blocks()", y -> y.blocks(), 0);
        check.dueNoChange(Check.lived(), "ring(2)", y -> y.ring(2), 0);
        check.dueNoChange(Check.lived(), "chain(2)", y -> y.chain(2), 0);
        check.dueRefused("ring(3)", y -> y.ring(3));
        check.dueRefused("chain(0)", y -> y.chain(0));
        check.dueRefused("chain(3)", y -> y.chain(3));
    }

    @Sentence(promise = 26, says = "ROW: numbers told last by a call that says so: other calls tell none")
    private static void rowBehindOtherCalls() {
        HomeRings x = Check.lived();
        x.family(0, 1, 1, false);
        x.wish(2, 1);
        x.in(0, false);
        x.best();
        x.mend();
        x.trade();
        x.book();
        x.undo();
        x.travel();
        check.dueRow(x, 1, 0);
    }
}
