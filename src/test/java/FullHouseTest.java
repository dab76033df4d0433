import java.util.Arrays;
import java.util.Random;

/**
 * Ten families with many wishes each: every plan, ring and chain of a full house is tried, for some houses.
 * All homes are farms and barns, so a family takes what it wishes but for bars and those who are out.
 */
public final class FullHouseTest {
    private static final Check check = new Check();
    private static final int ALL = 10;
    private static final int NONE = HomeRings.NONE;
    /** Above all ranks of a plan. */
    private static final int GOING = 1000;
    /** Above all that going counts. */
    private static final int KEEPING = 1000000;

    private final HomeRings x = new HomeRings();
    private final Random random;
    private final int[][] wished = new int[ALL][ALL];
    /** Of those homes that a family takes; else 0. */
    private final int[][] taken = new int[ALL][ALL];
    /** A barn sleeps one less than a farm and is worth 10 more for it: by beds both are worth the same. */
    private final int[] worth = new int[ALL];
    private final int[] points = new int[ALL];
    private final int[] old = new int[ALL];
    private final int[] plan = new int[ALL];
    private final int[] found = new int[ALL];
    private int[] longest = {};
    private long foundMerit = 0;
    private int most = ALL;
    private int limit = 0;

    private FullHouseTest(int seed) {
        random = new Random(seed);
    }

    public static void main(String[] args) {
        int houses = args.length > 0 ? Integer.parseInt(args[0]) : 16;
        for (int seed = 0; seed < houses; seed++) {
            check.begin("house " + seed + ": ");
            new FullHouseTest(seed).run(2 + seed % 8);
        }
        check.end("FullHouseTest");
    }

    private void run(int wishes) {
        fillHouse(wishes);
        checkChains();
        checkPlan(false);
        checkBlocks();
        disturb();
        checkPlan(true);
        checkBlocks();
        someStay();
        checkChains();
        x.trade();
        checkBlocks();
        checkPlan(true);
    }

    private void fillHouse(int wishes) {
        for (int f = 0; f < ALL; f++) {
            int kind = 2 + random.nextInt(2);
            int beds = 2 + random.nextInt(8);
            worth[f] = 10 * beds + 5;
            check.due("family", x.family(kind, beds, 1, random.nextBoolean()), f);
        }
        for (int f = 0; f < ALL; f++) {
            for (int rank = 1; rank <= wishes; rank++) {
                int home = newWish(f);
                wished[f][home] = rank;
                taken[f][home] = rank;
                check.due("wish", x.wish(f, home), rank);
            }
        }
        most = 2 + random.nextInt(9);
        x.set(1, most);
        limit = 20 * random.nextInt(10);
        x.set(2, limit);
    }

    private int newWish(int f) {
        int home = random.nextInt(ALL);
        while (home == f || wished[f][home] > 0) {
            home = (home + 1) % ALL;
        }
        return home;
    }

    /** One drops out, two may no longer meet, and rings may be longer or shorter. */
    private void disturb() {
        int out = random.nextInt(ALL);
        x.in(out, false);
        int a = random.nextInt(ALL);
        int b = (a + 1 + random.nextInt(ALL - 1)) % ALL;
        x.bar(a, b, true);
        taken[a][b] = 0;
        taken[b][a] = 0;
        for (int f = 0; f < ALL; f++) {
            taken[f][out] = 0;
            taken[out][f] = 0;
        }
        most = 2 + random.nextInt(9);
        x.set(1, most);
    }

    private void someStay() {
        for (int f = 0; f < ALL; f++) {
            if (random.nextBoolean()) {
                x.put(f, NONE);
            }
        }
    }

    private void readPlan() {
        for (int f = 0; f < ALL; f++) {
            old[f] = x.of(f, 4);
        }
    }

    // ---- plans

    private void checkPlan(boolean mended) {
        readPlan();
        foundMerit = -1;
        tryHomes(0, 0, 0, mended ? KEEPING : 0);
        int kept = 0;
        int going = 0;
        for (int f = 0; f < ALL; f++) {
            going += found[f] == NONE ? 0 : 1;
            kept += found[f] != NONE && found[f] == old[f] ? 1 : 0;
        }
        if (mended) {
            check.due("mend()", x.mend(), kept);
        } else {
            check.due("best()", x.best(), going);
        }
        check.duePlan(x, found);
    }

    /** Homes from the least number on, none last: so the first of equal plans is the one that is found first. */
    private void tryHomes(int f, int gone, long merit, int keeping) {
        if (f == ALL) {
            if (merit > foundMerit && closes(gone)) {
                foundMerit = merit;
                System.arraycopy(plan, 0, found, 0, ALL);
            }
            return;
        }
        for (int g = 0; g < ALL; g++) {
            if (taken[f][g] > 0 && (gone >> g & 1) == 0) {
                plan[f] = g;
                int kept = old[f] == g ? keeping : 0;
                tryHomes(f + 1, gone | 1 << g, merit + kept + GOING - taken[f][g], keeping);
            }
        }
        plan[f] = NONE;
        tryHomes(f + 1, gone, merit, keeping);
    }

    private boolean closes(int gone) {
        for (int f = 0; f < ALL; f++) {
            if ((gone >> f & 1) == 1 && plan[f] == NONE) {
                return false;
            }
        }
        for (int f = 0; f < ALL; f++) {
            int length = 0;
            for (int at = f; plan[f] != NONE && (length == 0 || at != f); at = plan[at]) {
                length++;
            }
            if (length > most) {
                return false;
            }
        }
        return true;
    }

    // ---- rings and chains

    private void checkBlocks() {
        readPlan();
        int[] ring = {};
        for (int length = 2; length <= ALL && ring.length == 0; length++) {
            for (int f = 0; f < ALL && ring.length == 0; f++) {
                ring = firstRing(new int[] {f}, length);
            }
        }
        check.due("blocks()", x.blocks(), ring.length);
        if (ring.length > 0) {
            check.dueRow(x, ring);
        }
    }

    private boolean wouldRather(int f, int g) {
        int own = old[f] == NONE ? 0 : wished[f][old[f]];
        return taken[f][g] > 0 && (own == 0 || taken[f][g] < own);
    }

    private int[] firstRing(int[] way, int length) {
        int last = way[way.length - 1];
        if (way.length == length) {
            return wouldRather(last, way[0]) ? way : new int[0];
        }
        for (int g = way[0] + 1; g < ALL; g++) {
            if (!holds(way, g) && wouldRather(last, g)) {
                int[] ring = firstRing(longer(way, g), length);
                if (ring.length > 0) {
                    return ring;
                }
            }
        }
        return new int[0];
    }

    /** From three families, to keep an object below its 512 calls. */
    private void checkChains() {
        readPlan();
        for (int f = 2; f < ALL; f += 3) {
            if (old[f] != NONE) {
                check.due("chain(" + f + ")", x.chain(f), NONE);
                continue;
            }
            longest = new int[] {f};
            growChain(longest);
            check.due("chain(" + f + ")", x.chain(f), longest.length - 1);
            if (longest.length > 1) {
                check.dueRow(x, longest);
                payChain();
            }
        }
    }

    private void payChain() {
        for (int i = 1; i < longest.length; i++) {
            points[longest[i - 1]] -= worth[longest[i]];
            points[longest[i]] += worth[longest[i]];
        }
        check.due("travel()", x.travel(), longest.length - 1);
        check.duePoints(x, points);
    }

    /** Homes are tried from the least number on, so the first of equal chains is the one that is found first. */
    private void growChain(int[] way) {
        if (way.length > longest.length) {
            longest = way;
        }
        int last = way[way.length - 1];
        int purse = points[last] + (way.length > 1 ? worth[last] : 0);
        for (int g = 0; g < ALL; g++) {
            boolean open = taken[last][g] > 0 && old[g] == NONE && !holds(old, g) && !holds(way, g);
            if (open && purse - worth[g] >= -limit) {
                growChain(longer(way, g));
            }
        }
    }

    private static boolean holds(int[] row, int g) {
        for (int f : row) {
            if (f == g) {
                return true;
            }
        }
        return false;
    }

    private static int[] longer(int[] way, int g) {
        int[] grown = Arrays.copyOf(way, way.length + 1);
        grown[way.length] = g;
        return grown;
    }
}
