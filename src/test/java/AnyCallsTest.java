import java.util.NoSuchElementException;
import java.util.Random;

/** Calls with numbers from all edges, in any order: each answers within its bounds, and only of() and row() throw. */
public final class AnyCallsTest {
    private static final Check check = new Check();
    /** Of those that are drawn: with what is asked behind them an object stays below its 512 calls. */
    private static final int CALLS = 300;
    private static final int[] EDGES = {Integer.MIN_VALUE, Integer.MIN_VALUE + 1, -257, -256, -129, -128, -2, -1,
        0, 1, 2, 3, 4, 5, 6, 7, 8, 9, 10, 11, 19, 20, 21, 50, 51, 52, 59, 60, 61, 127, 128, 255, 256, 257, 500, 501,
        Integer.MAX_VALUE - 1, Integer.MAX_VALUE};

    private final Random random;
    private final HomeRings x = new HomeRings();

    private AnyCallsTest(int seed) {
        random = new Random(seed);
    }

    public static void main(String[] args) {
        for (int seed = 0; seed < 800; seed++) {
            check.begin("seed " + seed + ": ");
            new AnyCallsTest(seed).run(seed % 11, seed % 3 == 0);
        }
        check.end("AnyCallsTest");
    }

    private void run(int families, boolean farms) {
        for (int f = 0; f < families; f++) {
            x.family(farms ? 2 : f % 4, 9 - f % 3, 1 + f % 3, !farms && f % 4 == 0);
        }
        for (int f = 0; f < families; f++) {
            x.wishes(f, 1, 9, (f + 1) % families, 1);
            x.wish(f, 0);
        }
        x.set(2, 500);
        for (int i = 0; i < CALLS; i++) {
            try {
                callAny(random.nextInt(34));
            } catch (RuntimeException e) {
                check.fail("call " + i + " threw " + e);
                return;
            }
        }
        checkPoints();
    }

    /** Mostly a small number, else one from an edge. */
    private int any() {
        return random.nextInt(3) > 0 ? random.nextInt(10) : EDGES[random.nextInt(EDGES.length)];
    }

    private void within(String call, int answer, int least, int most) {
        check.due(call + " answered " + answer + ", within its bounds", answer >= least && answer <= most, true);
    }

    /** A ring has two families at least. */
    private void ringWithin(String call, int answer, int least) {
        within(call, answer, least, 10);
        check.due(call + " answered 1", answer == 1, false);
    }

    private void callAny(int call) {
        switch (call) {
            case 0: within("family", x.family(any(), any(), any(), random.nextBoolean()), -1, 9); break;
            case 1: x.weeks(any(), random.nextInt(2), any(), any()); break;
            case 2: x.weeks(any(), any(), 0, 51); break;
            case 3: case 4: case 5: within("wish", x.wish(any(), any()), -1, 9); break;
            case 6: within("wishes", x.wishes(any(), random.nextInt(2), any(), any(), any()), -2, 9); break;
            case 7: within("wishes", x.wishes(any(), any(), any(), any(), any()), -2, 9); break;
            case 8: x.bar(any(), any(), random.nextInt(4) == 0); break;
            case 9: x.in(any(), random.nextInt(4) > 0); break;
            case 10: within("set", x.set(any(), any()), -1, 500); break;
            case 11: within("count", x.count(any()), -1, 90); break;
            case 12: case 13: ofAny(any(), any()); break;
            case 14: within("rank", x.rank(any(), any()), -1, 9); break;
            case 15: within("can", x.can(any(), any()), -1, 5); break;
            case 16: within("week", x.week(any(), any()), -1, 51); break;
            case 17: case 18: x.put(any(), any()); break;
            case 19: within("wrong", x.wrong(), 0, 49); break;
            default: callPlans(call); break;
        }
    }

    private void callPlans(int call) {
        switch (call) {
            case 20: planned("best", x.best(), true); break;
            case 21: within("mend", x.mend(), 0, x.count(4)); check.due("wrong() behind mend()", x.wrong(), 0); break;
            case 22: planned("trade", x.trade(), false); break;
            case 23: ringWithin("blocks", x.blocks(), 0); break;
            case 24: case 25: ringWithin("ring", x.ring(any()), -1); break;
            case 26: within("chain", x.chain(any()), -1, 9); break;
            case 27: case 28: within("chain", x.chain(any()), -1, 9); within("travel", x.travel(), -1, 9); break;
            case 29: within("travel", x.travel(), -1, 9); break;
            case 30: ringWithin("book", x.book(), -1); break;
            case 31: within("went", x.went(any(), any()), -1, 9); break;
            case 32: within("undo", x.undo(), -1, 59); break;
            default: rowAny(any()); break;
        }
    }

    private void planned(String call, int going, boolean withinMost) {
        check.due("count(4) behind " + call, x.count(4), going);
        int wrong = x.wrong();
        check.due("wrong() behind " + call, wrong == 0 || (!withinMost && wrong >= 40), true);
    }

    private void ofAny(int family, int what) {
        boolean such = family >= 0 && family < x.count(0) && what >= 0 && what < 8;
        boolean told;
        try {
            x.of(family, what);
            told = true;
        } catch (NoSuchElementException e) {
            told = false;
        }
        check.due("of(" + family + ", " + what + ") tells", told, such);
    }

    private void rowAny(int i) {
        boolean such = i >= 0 && i < x.count(3);
        boolean told;
        try {
            within("row", x.row(i), 0, x.count(0) - 1);
            told = true;
        } catch (NoSuchElementException e) {
            told = false;
        }
        check.due("row(" + i + ") tells", told, such);
    }

    /** Who pays, pays to another one: all points together are none. */
    private void checkPoints() {
        int sum = 0;
        for (int f = 0; f < x.count(0); f++) {
            sum += x.of(f, 3);
        }
        check.due("all points", sum, 0);
    }
}
