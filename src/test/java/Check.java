import java.util.NoSuchElementException;
import java.util.function.Predicate;
import java.util.function.ToIntFunction;

/** Counts and prints the calls whose answer is not the one that is due. */
final class Check {
    /** None of them is a family of an object with three. */
    static final int[] NO_FAMILIES = {-1, 3, 10, -2, 255, 256, Integer.MAX_VALUE, Integer.MIN_VALUE};

    private int wrong = 0;
    private int asked = 0;
    private String test = "";

    /** The words ahead of all that is printed from here on. */
    void begin(String name) {
        test = name;
    }

    int asked() {
        return asked;
    }

    void due(String call, long got, long want) {
        asked++;
        if (got != want) {
            wrong++;
            System.out.println(test + call + " answered " + got + ", due is " + want);
        }
    }

    void due(String call, boolean got, boolean want) {
        due(call, got ? 1 : 0, want ? 1 : 0);
    }

    void dueOf(HomeRings x, int family, int what, int want) {
        String call = "of(" + family + ", " + what + ")";
        try {
            due(call, x.of(family, what), want);
        } catch (NoSuchElementException e) {
            fail(call + " threw, due is " + want);
        }
    }

    void dueOfThrows(HomeRings x, int family, int what) {
        asked++;
        try {
            int got = x.of(family, what);
            fail("of(" + family + ", " + what + ") answered " + got + ", due is NoSuchElementException");
        } catch (NoSuchElementException e) {
            // as due
        }
    }

    void dueRowThrows(HomeRings x, int i) {
        asked++;
        try {
            int got = x.row(i);
            fail("row(" + i + ") answered " + got + ", due is NoSuchElementException");
        } catch (NoSuchElementException e) {
            // as due
        }
    }

    /** The whole row, and that it has no number more. */
    void dueRow(HomeRings x, int... want) {
        due("count(3)", x.count(3), want.length);
        for (int i = 0; i < want.length; i++) {
            try {
                due("row(" + i + ")", x.row(i), want[i]);
            } catch (NoSuchElementException e) {
                fail("row(" + i + ") threw, due is " + want[i]);
            }
        }
        dueRowThrows(x, -1);
        dueRowThrows(x, want.length);
    }

    /** To whose home each family goes by the plan. */
    void duePlan(HomeRings x, int... want) {
        due("count(0)", x.count(0), want.length);
        for (int f = 0; f < want.length; f++) {
            dueOf(x, f, 4, want[f]);
        }
    }

    void duePoints(HomeRings x, int... want) {
        for (int f = 0; f < want.length; f++) {
            dueOf(x, f, 3, want[f]);
        }
    }

    /** The call answers as due, and changes nothing that can be asked. */
    void dueNoChange(HomeRings x, String call, ToIntFunction<HomeRings> made, int want) {
        String before = State.of(x);
        due(call, made.applyAsInt(x), want);
        dueSame(call, before, State.of(x));
    }

    /** The call of an object that has all that a call could change answers NONE, and changes nothing. */
    void dueRefused(String call, ToIntFunction<HomeRings> made) {
        dueNoChange(lived(), call, made, HomeRings.NONE);
    }

    void dueFalse(String call, Predicate<HomeRings> made) {
        dueNoChange(lived(), call, x -> made.test(x) ? 1 : 0, 0);
    }

    private void dueSame(String call, String before, String behind) {
        asked++;
        if (!before.equals(behind)) {
            fail(call + " changed" + before + "\n to" + behind);
        }
    }

    void fail(String text) {
        asked++;
        wrong++;
        System.out.println(test + text);
    }

    void end(String name) {
        System.out.println(name + ": " + asked + " answers, " + wrong + " not as due");
        if (wrong != 0) {
            System.exit(1);
        }
    }

    /** Families with farms that sleep nine, one person each: only wishes, bars and weeks matter. */
    static HomeRings farms(int families) {
        HomeRings x = new HomeRings();
        for (int f = 0; f < families; f++) {
            x.family(2, 9, 1, false);
        }
        return x;
    }

    /** Farms; row f holds the wishes of family f. */
    static HomeRings wishing(int[][] wishes) {
        HomeRings x = farms(wishes.length);
        tellWishes(x, wishes);
        return x;
    }

    /** Each wishes for the next, the last for the first. */
    static int[][] circle(int families) {
        int[][] wishes = new int[families][1];
        for (int f = 0; f < families; f++) {
            wishes[f][0] = (f + 1) % families;
        }
        return wishes;
    }

    /** Homes of worth 10, 20, 30, ..: each sleeps one more; row f holds the wishes of family f. */
    static HomeRings homes(int[][] wishes) {
        HomeRings x = new HomeRings();
        for (int f = 0; f < wishes.length; f++) {
            x.family(0, f + 1, 1, false);
        }
        tellWishes(x, wishes);
        return x;
    }

    /** Three families with wishes, weeks, a bar, points, a year, a plan and a row: a change of any of these is seen. */
    static HomeRings lived() {
        HomeRings x = homes(new int[][] {{1, 2}, {0}, {0}});
        x.best();
        x.book();
        x.weeks(0, 0, 10, 20);
        x.weeks(2, 1, 5, 30);
        x.bar(1, 2, true);
        x.best();
        x.ring(1);
        return x;
    }

    private static void tellWishes(HomeRings x, int[][] wishes) {
        for (int f = 0; f < wishes.length; f++) {
            for (int home : wishes[f]) {
                x.wish(f, home);
            }
        }
    }

    static void putAll(HomeRings x, int... plan) {
        for (int f = 0; f < plan.length; f++) {
            x.put(f, plan[f]);
        }
    }
}
