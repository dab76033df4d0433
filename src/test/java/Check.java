import java.util.NoSuchElementException;

/** Counts and prints the calls whose answer is not the one that is due. */
final class Check {
    private int wrong = 0;
    private int asked = 0;

    void due(String call, long got, long want) {
        asked++;
        if (got != want) {
            wrong++;
            System.out.println(call + " answered " + got + ", due is " + want);
        }
    }

    void due(String call, boolean got, boolean want) {
        due(call, got ? 1 : 0, want ? 1 : 0);
    }

    void dueOf(HomeRings x, int family, int what, int want) {
        String call = "of(" + family + ", " + what + ")";
        try {
            due(call, x.of(family, what), want);
        } catch (NoSuchElementException e) {
            fail(call + " threw, due is " + want);
        }
    }

    void dueOfThrows(HomeRings x, int family, int what) {
        asked++;
        try {
            int got = x.of(family, what);
            fail("of(" + family + ", " + what + ") answered " + got + ", due is NoSuchElementException");
        } catch (NoSuchElementException e) {
            // as due
        }
    }

    void dueRowThrows(HomeRings x, int i) {
        asked++;
        try {
            int got = x.row(i);
            fail("row(" + i + ") answered " + got + ", due is NoSuchElementException");
        } catch (NoSuchElementException e) {
            // as due
        }
    }

    /** The whole row, and that it has no number more. */
    void dueRow(HomeRings x, int... want) {
        due("count(3)", x.count(3), want.length);
        for (int i = 0; i < want.length; i++) {
            try {
                due("row(" + i + ")", x.row(i), want[i]);
            } catch (NoSuchElementException e) {
                fail("row(" + i + ") threw, due is " + want[i]);
            }
        }
        dueRowThrows(x, -1);
        dueRowThrows(x, want.length);
    }

    /** To whose home each family goes by the plan. */
    void duePlan(HomeRings x, int... want) {
        due("count(0)", x.count(0), want.length);
        for (int f = 0; f < want.length; f++) {
            dueOf(x, f, 4, want[f]);
        }
    }

    void duePoints(HomeRings x, int... want) {
        for (int f = 0; f < want.length; f++) {
            dueOf(x, f, 3, want[f]);
        }
    }

    void fail(String text) {
        asked++;
        wrong++;
        System.out.println(text);
    }

    void end(String name) {
        System.out.println(name + ": " + asked + " answers, " + wrong + " not as due");
        if (wrong != 0) {
            System.exit(1);
        }
    }

    /** Families with farms that sleep nine, one person each: only wishes, bars and weeks matter. */
    static HomeRings farms(int families) {
        HomeRings x = new HomeRings();
        for (int f = 0; f < families; f++) {
            x.family(2, 9, 1, false);
        }
        return x;
    }

    /** Farms; row f holds the wishes of family f. */
    static HomeRings wishing(int[][] wishes) {
        HomeRings x = farms(wishes.length);
        for (int f = 0; f < wishes.length; f++) {
            for (int home : wishes[f]) {
                x.wish(f, home);
            }
        }
        return x;
    }

    static void putAll(HomeRings x, int... plan) {
        for (int f = 0; f < plan.length; f++) {
            x.put(f, plan[f]);
        }
    }
}
