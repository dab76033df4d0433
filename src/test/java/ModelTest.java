import java.util.NoSuchElementException;
import java.util.Random;

/** Long runs of calls, told to the class and to the plain model; both must answer alike, refusals too. */
public final class ModelTest {
    private static final Check check = new Check();
    private static final int THROWN = -12345;

    public static void main(String[] args) {
        for (int seed = 0; seed < 500; seed++) {
            run(seed, 2 + seed % 5, 150);
        }
        for (int seed = 5000; seed < 5012; seed++) {
            run(seed, 7, 60);
        }
        for (int seed = 6000; seed < 6020; seed++) {
            runSparse(seed);
        }
        check.end("ModelTest");
    }

    private static void run(int seed, int families, int calls) {
        Random random = new Random(seed);
        HomeRings x = new HomeRings();
        Model m = new Model();
        boolean plain = seed % 3 == 0;
        for (int f = 0; f < families; f++) {
            int kind = plain ? 2 : random.nextInt(4);
            int beds = plain ? 9 : 2 + random.nextInt(8);
            int persons = plain ? 1 : 1 + random.nextInt(4);
            boolean pet = !plain && random.nextInt(4) == 0;
            check.due("family", x.family(kind, beds, persons, pet), m.family(kind, beds, persons, pet));
            tellWishes(random, x, m, f, families);
        }
        for (int f = 0; f < families; f++) {
            tellWishes(random, x, m, f, families);
        }
        x.set(2, seed % 120);
        m.set(2, seed % 120);
        for (int i = 0; i < calls; i++) {
            int call = random.nextInt(40);
            String name = "seed " + seed + " call " + i + ": " + call;
            tell(random, x, m, call, name, families);
            if (random.nextInt(4) == 0) {
                compareState(x, m, name);
            }
        }
    }

    /** Ten families with few wishes each, so that the model can still try all. */
    private static void runSparse(int seed) {
        Random random = new Random(seed);
        HomeRings x = new HomeRings();
        Model m = new Model();
        for (int f = 0; f < 10; f++) {
            x.family(2, 9, 1, false);
            m.family(2, 9, 1, false);
        }
        for (int f = 0; f < 10; f++) {
            for (int i = 0; i < 2; i++) {
                int home = random.nextInt(10);
                check.due("wish", x.wish(f, home), m.wish(f, home));
            }
        }
        x.set(2, 500);
        m.set(2, 500);
        for (int i = 0; i < 12; i++) {
            String name = "sparse seed " + seed + " call " + i;
            tell(random, x, m, 18 + random.nextInt(14), name, 10);
            compareState(x, m, name);
        }
    }

    private static void tellWishes(Random random, HomeRings x, Model m, int f, int families) {
        for (int i = 0; i < families; i++) {
            int home = random.nextInt(families);
            if (random.nextInt(3) != 0) {
                check.due("wish", x.wish(f, home), m.wish(f, home));
            }
        }
    }

    private static int any(Random random, int families) {
        switch (random.nextInt(16)) {
            case 0: return -1;
            case 1: return families;
            case 2: return random.nextInt();
            default: return random.nextInt(families);
        }
    }

    private static void tell(Random random, HomeRings x, Model m, int call, String name, int families) {
        int a = any(random, families);
        int b = any(random, families);
        boolean is = random.nextBoolean();
        switch (call) {
            case 0: case 1: tellWeeks(random, x, m, name, a); break;
            case 2: case 3: check.due(name, x.wish(a, b), m.wish(a, b)); break;
            case 4: tellSheet(random, x, m, name, a, families); break;
            case 5: check.due(name, x.bar(a, b, is), m.bar(a, b, is)); break;
            case 6: check.due(name, x.bar(a, b, false), m.bar(a, b, false)); break;
            case 7: check.due(name, x.in(a, is), m.in(a, is)); break;
            case 8: case 9: check.due(name, x.in(a, true), m.in(a, true)); break;
            case 10: tellSet(random, x, m, name); break;
            case 11: check.due(name, x.rank(a, b), m.rank(a, b)); break;
            case 12: check.due(name, x.can(a, b), m.can(a, b)); break;
            case 13: check.due(name, x.week(a, b), m.week(a, b)); break;
            case 14: case 15: check.due(name, x.put(a, b), m.put(a, b)); break;
            case 16: case 17: case 18: check.due(name, x.put(a, -1), m.put(a, -1)); break;
            case 19: case 20: check.due(name, x.wrong(), m.wrong()); break;
            case 21: check.due(name, x.best(), m.best()); break;
            case 22: case 23: check.due(name, x.mend(), m.mend()); break;
            case 24: check.due(name, x.trade(), m.trade()); break;
            case 25: case 26: check.due(name, x.blocks(), m.blocks()); break;
            case 27: case 28: check.due(name, x.ring(a), m.ring(a)); break;
            case 29: case 30: case 31: check.due(name, x.chain(a), m.chain(a)); break;
            case 32: case 33: case 34: tellTravel(x, m, name, a); break;
            case 35: check.due(name, x.book(), m.book()); break;
            case 36: check.due(name, x.undo(), m.undo()); break;
            case 37: check.due(name, x.went(b, a), m.went(b, a)); break;
            case 38: tellNone(x, m); break;
            default: check.due(name, x.family(a, 3, 2, is), m.family(a, 3, 2, is)); break;
        }
    }

    private static void tellTravel(HomeRings x, Model m, String name, int a) {
        check.due(name + " chain", x.chain(a), m.chain(a));
        check.due(name, x.travel(), m.travel());
    }

    private static void tellNone(HomeRings x, Model m) {
        for (int f = 0; f < x.count(0); f++) {
            x.put(f, -1);
            m.put(f, -1);
        }
    }

    private static void tellWeeks(Random random, HomeRings x, Model m, String name, int a) {
        int what = random.nextInt(9) == 0 ? random.nextInt(5) - 1 : random.nextInt(2);
        int from = random.nextInt(30) - 1;
        int to = random.nextInt(10) == 0 ? random.nextInt(60) : from + 5 + random.nextInt(20);
        check.due(name, x.weeks(a, what, from, to), m.weeks(a, what, from, to));
    }

    private static void tellSheet(Random random, HomeRings x, Model m, String name, int a, int families) {
        int kind = random.nextInt(5) - 1;
        int n = random.nextInt(25) - 2;
        int f = any(random, families) + (random.nextInt(3) == 0 ? 256 * random.nextInt(5) : 0);
        int step = random.nextInt(4) == 0 ? random.nextInt() : random.nextInt(7) - 3;
        check.due(name, x.wishes(a, kind, n, f, step), m.wishes(a, kind, n, f, step));
    }

    private static void tellSet(Random random, HomeRings x, Model m, String name) {
        int what = random.nextInt(5) - 1;
        int v = what == 2 ? random.nextInt(520) - 10 : random.nextInt(13) - 1;
        check.due(name, x.set(what, v), m.set(what, v));
    }

    private static int ofOr(HomeRings x, int family, int what) {
        try {
            return x.of(family, what);
        } catch (NoSuchElementException e) {
            return THROWN;
        }
    }

    private static int ofOr(Model m, int family, int what) {
        try {
            return m.of(family, what);
        } catch (NoSuchElementException e) {
            return THROWN;
        }
    }

    private static int rowOr(HomeRings x, int i) {
        try {
            return x.row(i);
        } catch (NoSuchElementException e) {
            return THROWN;
        }
    }

    private static int rowOr(Model m, int i) {
        try {
            return m.row(i);
        } catch (NoSuchElementException e) {
            return THROWN;
        }
    }

    private static void compareState(HomeRings x, Model m, String name) {
        for (int what = -1; what < 8; what++) {
            check.due(name + ", count(" + what + ")", x.count(what), m.count(what));
        }
        for (int f = -1; f <= m.count(0); f++) {
            for (int what = -1; what < 9; what++) {
                check.due(name + ", of(" + f + ", " + what + ")", ofOr(x, f, what), ofOr(m, f, what));
            }
            for (int year = -1; year <= m.count(2); year++) {
                check.due(name + ", went(" + year + ", " + f + ")", x.went(year, f), m.went(year, f));
            }
        }
        for (int i = -1; i <= m.count(3); i++) {
            check.due(name + ", row(" + i + ")", rowOr(x, i), rowOr(m, i));
        }
        check.due(name + ", wrong()", x.wrong(), m.wrong());
    }
}
