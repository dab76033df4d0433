import java.util.ArrayList;
import java.util.List;
import java.util.NoSuchElementException;

/** The document once more, in its plainest form: every plan, ring and chain is tried. For few families. */
final class Model {
    private static final int NONE = -1;

    private static final class Fam {
        int kind;
        int beds;
        int persons;
        boolean pet;
        int[][] weeks = {{0, 51}, {0, 51}};
        List<Integer> wishes = new ArrayList<>();
        boolean in = true;
        int points = 0;
        List<Fam> barred = new ArrayList<>();
        int goes = NONE;
    }

    private static final class Year {
        List<Integer> plan = new ArrayList<>();
    }

    private final List<Fam> fams = new ArrayList<>();
    private final List<Year> years = new ArrayList<>();
    private final int[] sets = {2, 10, 0};
    private List<Integer> row = new ArrayList<>();
    private boolean chainIsLatest = false;

    // ---- families

    int family(int kind, int beds, int persons, boolean pet) {
        chainIsLatest = false;
        if (kind < 0 || kind > 3 || beds < 1 || beds > 9 || persons < 1 || persons > 9 || fams.size() == 10) {
            return NONE;
        }
        Fam f = new Fam();
        f.kind = kind;
        f.beds = beds;
        f.persons = persons;
        f.pet = pet;
        fams.add(f);
        return fams.size() - 1;
    }

    boolean weeks(int family, int what, int from, int to) {
        chainIsLatest = false;
        if (!is(family) || what < 0 || what > 1 || from < 0 || from > to || to > 51) {
            return false;
        }
        fams.get(family).weeks[what] = new int[] {from, to};
        return true;
    }

    int wish(int family, int home) {
        chainIsLatest = false;
        if (!is(family) || !is(home) || family == home || rank(family, home) != 0) {
            return NONE;
        }
        fams.get(family).wishes.add(home);
        return fams.get(family).wishes.size();
    }

    int wishes(int family, int kind, int n, int f, int step) {
        chainIsLatest = false;
        if (!is(family) || kind < 0 || kind > 2 || n > 20) {
            return NONE;
        }
        if (kind < 2 && n < 0) {
            return -2;
        }
        List<Integer> fresh = new ArrayList<>();
        int entry = f;
        for (int i = 0; kind < 2 && i < n; i++) {
            int home = kind == 0 ? (byte) entry : entry;
            if (!is(home) || home == family || fresh.contains(home)) {
                break;
            }
            fresh.add(home);
            entry += step;
        }
        fams.get(family).wishes = fresh;
        return fresh.size();
    }

    boolean bar(int a, int b, boolean is) {
        chainIsLatest = false;
        if (!is(a) || !is(b) || a == b) {
            return false;
        }
        fams.get(a).barred.remove(fams.get(b));
        fams.get(b).barred.remove(fams.get(a));
        if (is) {
            fams.get(a).barred.add(fams.get(b));
            fams.get(b).barred.add(fams.get(a));
        }
        return true;
    }

    boolean in(int family, boolean is) {
        chainIsLatest = false;
        if (!is(family)) {
            return false;
        }
        fams.get(family).in = is;
        return true;
    }

    int set(int what, int v) {
        chainIsLatest = false;
        int[][] bounds = {{1, 8}, {2, 10}, {0, 500}};
        if (what < 0 || what > 2 || v < bounds[what][0] || v > bounds[what][1]) {
            return NONE;
        }
        int was = sets[what];
        sets[what] = v;
        return was;
    }

    int count(int what) {
        int[] plan = plan();
        int in = 0;
        int ranks = 0;
        for (int f = 0; f < fams.size(); f++) {
            in += fams.get(f).in ? 1 : 0;
            ranks += plan[f] == NONE ? 0 : rank(f, plan[f]);
        }
        int[] all = {fams.size(), in, years.size(), row.size(), goers(plan), closes(plan) ? rings(plan).size() : 0, ranks};
        return what < 0 || what > 6 ? NONE : all[what];
    }

    int of(int family, int what) {
        if (!is(family) || what < 0 || what > 7) {
            throw new NoSuchElementException();
        }
        Fam f = fams.get(family);
        int guest = NONE;
        int taken = 0;
        for (int g = fams.size() - 1; g >= 0; g--) {
            guest = fams.get(g).goes == family ? g : guest;
            taken += takes(family, g) ? 1 : 0;
        }
        return new int[] {sleeps(f), worth(f), f.wishes.size(), f.points, f.goes, guest, f.in ? 1 : 0, taken}[what];
    }

    int rank(int family, int home) {
        return !is(family) || !is(home) || family == home ? NONE : fams.get(family).wishes.indexOf(home) + 1;
    }

    int can(int family, int home) {
        if (!is(family) || !is(home) || family == home) {
            return NONE;
        }
        Fam f = fams.get(family);
        Fam g = fams.get(home);
        if (!f.in || !g.in) {
            return 1;
        }
        if (f.barred.contains(g)) {
            return 2;
        }
        if (f.persons > sleeps(g)) {
            return 3;
        }
        if (f.pet && g.kind < 2) {
            return 4;
        }
        return commonWeeks(f, g).size() < sets[0] ? 5 : 0;
    }

    int week(int family, int home) {
        return can(family, home) != 0 ? NONE : commonWeeks(fams.get(family), fams.get(home)).get(0);
    }

    // ---- plans

    boolean put(int family, int home) {
        chainIsLatest = false;
        if (!is(family) || family == home || (!is(home) && home != NONE)) {
            return false;
        }
        fams.get(family).goes = home;
        return true;
    }

    int wrong() {
        int[] plan = plan();
        for (int f = 0; f < plan.length; f++) {
            if (plan[f] != NONE && !takes(f, plan[f])) {
                return 10 + f;
            }
        }
        for (int f = 0; f < plan.length; f++) {
            for (int g = f + 1; g < plan.length; g++) {
                if (plan[f] != NONE && plan[f] == plan[g]) {
                    return 20 + f;
                }
            }
        }
        for (int f = 0; f < plan.length; f++) {
            for (int g = 0; g < plan.length; g++) {
                if (plan[f] == NONE && plan[g] == f) {
                    return 30 + f;
                }
            }
        }
        for (int f = 0; f < plan.length; f++) {
            if (plan[f] != NONE && ringOf(plan, f).size() > sets[1]) {
                return 40 + f;
            }
        }
        return 0;
    }

    int best() {
        chainIsLatest = false;
        int[] found = search(false);
        take(found);
        return goers(found);
    }

    int mend() {
        chainIsLatest = false;
        int[] old = plan();
        int[] found = search(true);
        take(found);
        return kept(old, found);
    }

    int trade() {
        chainIsLatest = false;
        int[] plan = new int[fams.size()];
        List<Integer> left = new ArrayList<>();
        for (int f = 0; f < plan.length; f++) {
            plan[f] = NONE;
            left.add(f);
        }
        while (!left.isEmpty()) {
            int[] shows = shows(left);
            Integer leaver = null;
            for (Integer f : left) {
                if (leaver == null && shows[f] == NONE) {
                    leaver = f;
                }
            }
            if (leaver != null) {
                left.remove(leaver);
                continue;
            }
            List<Integer> ring = null;
            for (Integer f : left) {
                List<Integer> way = ringOf(shows, f);
                if (ring == null && way != null) {
                    ring = way;
                }
            }
            for (Integer f : ring) {
                plan[f] = shows[f];
            }
            left.removeAll(ring);
        }
        take(plan);
        return goers(plan);
    }

    int blocks() {
        chainIsLatest = false;
        List<List<Integer>> found = new ArrayList<>();
        for (int f = 0; f < fams.size(); f++) {
            List<Integer> begin = new ArrayList<>();
            begin.add(f);
            growRings(begin, found);
        }
        List<Integer> first = new ArrayList<>();
        for (List<Integer> ring : found) {
            if (first.isEmpty() || ring.size() < first.size() || (ring.size() == first.size() && ahead(ring, first))) {
                first = ring;
            }
        }
        row = first.isEmpty() ? row : first;
        return first.size();
    }

    int ring(int family) {
        chainIsLatest = false;
        if (!is(family)) {
            return NONE;
        }
        int[] plan = plan();
        if (plan[family] == NONE || !closes(plan)) {
            return 0;
        }
        row = ringOf(plan, family);
        return row.size();
    }

    // ---- points

    int chain(int family) {
        chainIsLatest = false;
        if (!is(family) || fams.get(family).goes != NONE) {
            return NONE;
        }
        List<List<Integer>> found = new ArrayList<>();
        List<Integer> begin = new ArrayList<>();
        begin.add(family);
        growChains(begin, found);
        List<Integer> longest = new ArrayList<>();
        for (List<Integer> way : found) {
            if (way.size() > longest.size() || (way.size() == longest.size() && ahead(way, longest))) {
                longest = way;
            }
        }
        if (longest.isEmpty()) {
            return 0;
        }
        row = longest;
        chainIsLatest = true;
        return row.size() - 1;
    }

    int travel() {
        if (!chainIsLatest) {
            return NONE;
        }
        chainIsLatest = false;
        for (int i = 0; i + 1 < row.size(); i++) {
            pay(row.get(i), row.get(i + 1), 1);
        }
        return row.size() - 1;
    }

    int book() {
        chainIsLatest = false;
        int[] plan = plan();
        if (years.size() == 60 || !closes(plan)) {
            return NONE;
        }
        Year year = new Year();
        for (int f = 0; f < plan.length; f++) {
            year.plan.add(plan[f]);
            if (plan[f] != NONE) {
                pay(f, plan[f], 1);
            }
            fams.get(f).goes = NONE;
        }
        years.add(year);
        return goers(plan);
    }

    int went(int year, int family) {
        if (year < 0 || year >= years.size() || !is(family) || family >= years.get(year).plan.size()) {
            return NONE;
        }
        return years.get(year).plan.get(family);
    }

    int undo() {
        chainIsLatest = false;
        if (years.isEmpty()) {
            return NONE;
        }
        Year year = years.remove(years.size() - 1);
        for (int f = 0; f < fams.size(); f++) {
            fams.get(f).goes = f < year.plan.size() ? year.plan.get(f) : NONE;
            if (fams.get(f).goes != NONE) {
                pay(f, fams.get(f).goes, -1);
            }
        }
        return years.size();
    }

    int row(int i) {
        if (i < 0 || i >= row.size()) {
            throw new NoSuchElementException();
        }
        return row.get(i);
    }

    // ---- help

    private boolean is(int f) {
        return f >= 0 && f < fams.size();
    }

    private static int sleeps(Fam f) {
        return f.beds - f.kind % 2;
    }

    private static int worth(Fam f) {
        return 10 * sleeps(f) + new int[] {0, 0, 5, 15}[f.kind];
    }

    private static List<Integer> commonWeeks(Fam f, Fam g) {
        List<Integer> common = new ArrayList<>();
        for (int w = 0; w < 52; w++) {
            if (w >= f.weeks[1][0] && w <= f.weeks[1][1] && w >= g.weeks[0][0] && w <= g.weeks[0][1]) {
                common.add(w);
            }
        }
        return common;
    }

    private boolean takes(int f, int g) {
        return can(f, g) == 0 && rank(f, g) > 0;
    }

    private int[] plan() {
        int[] plan = new int[fams.size()];
        for (int f = 0; f < plan.length; f++) {
            plan[f] = fams.get(f).goes;
        }
        return plan;
    }

    private void take(int[] plan) {
        for (int f = 0; f < plan.length; f++) {
            fams.get(f).goes = plan[f];
        }
    }

    private static int goers(int[] plan) {
        int goers = 0;
        for (int home : plan) {
            goers += home == NONE ? 0 : 1;
        }
        return goers;
    }

    private static int kept(int[] old, int[] plan) {
        int kept = 0;
        for (int f = 0; f < plan.length; f++) {
            kept += plan[f] != NONE && plan[f] == old[f] ? 1 : 0;
        }
        return kept;
    }

    private int ranks(int[] plan) {
        int sum = 0;
        for (int f = 0; f < plan.length; f++) {
            sum += plan[f] == NONE ? 0 : rank(f, plan[f]);
        }
        return sum;
    }

    private boolean closes(int[] plan) {
        for (int f = 0; f < plan.length; f++) {
            if (plan[f] == NONE) {
                continue;
            }
            if (!takes(f, plan[f]) || plan[plan[f]] == NONE) {
                return false;
            }
            for (int g = 0; g < f; g++) {
                if (plan[g] == plan[f]) {
                    return false;
                }
            }
        }
        return true;
    }

    /** From f on until f comes again; null if it never does. */
    private static List<Integer> ringOf(int[] plan, int f) {
        List<Integer> way = new ArrayList<>();
        int at = f;
        do {
            way.add(at);
            at = plan[at];
        } while (at != NONE && at != f && way.size() <= plan.length);
        return at == f ? way : null;
    }

    private static List<List<Integer>> rings(int[] plan) {
        List<List<Integer>> rings = new ArrayList<>();
        for (int f = 0; f < plan.length; f++) {
            List<Integer> ring = plan[f] == NONE ? null : ringOf(plan, f);
            if (ring != null && java.util.Collections.min(ring) == f) {
                rings.add(ring);
            }
        }
        return rings;
    }

    private boolean fits(int[] plan) {
        if (!closes(plan)) {
            return false;
        }
        for (List<Integer> ring : rings(plan)) {
            if (ring.size() > sets[1]) {
                return false;
            }
        }
        return true;
    }

    private int[] search(boolean keeping) {
        int[] none = new int[fams.size()];
        java.util.Arrays.fill(none, NONE);
        int[][] bestYet = {none.clone()};
        tryHomes(0, none.clone(), plan(), keeping, bestYet);
        return bestYet[0];
    }

    private void tryHomes(int f, int[] plan, int[] old, boolean keeping, int[][] bestYet) {
        if (f == plan.length) {
            if (fits(plan) && better(plan, bestYet[0], old, keeping)) {
                bestYet[0] = plan.clone();
            }
            return;
        }
        for (int home = 0; home < plan.length; home++) {
            if (takes(f, home)) {
                plan[f] = home;
                tryHomes(f + 1, plan, old, keeping, bestYet);
            }
        }
        plan[f] = NONE;
        tryHomes(f + 1, plan, old, keeping, bestYet);
    }

    private boolean better(int[] a, int[] b, int[] old, boolean keeping) {
        if (keeping && kept(old, a) != kept(old, b)) {
            return kept(old, a) > kept(old, b);
        }
        if (goers(a) != goers(b)) {
            return goers(a) > goers(b);
        }
        if (ranks(a) != ranks(b)) {
            return ranks(a) < ranks(b);
        }
        for (int f = 0; f < a.length; f++) {
            if (a[f] != b[f]) {
                return b[f] == NONE || (a[f] != NONE && a[f] < b[f]);
            }
        }
        return false;
    }

    private int[] shows(List<Integer> left) {
        int[] shows = new int[fams.size()];
        java.util.Arrays.fill(shows, NONE);
        for (Integer f : left) {
            for (Integer home : fams.get(f).wishes) {
                if (shows[f] == NONE && left.contains(home) && takes(f, home)) {
                    shows[f] = home;
                }
            }
        }
        return shows;
    }

    private boolean wouldRather(int f, int g) {
        int own = fams.get(f).goes;
        return takes(f, g) && (own == NONE || rank(f, own) == 0 || rank(f, g) < rank(f, own));
    }

    private void growRings(List<Integer> way, List<List<Integer>> found) {
        int last = way.get(way.size() - 1);
        if (way.size() > 1 && wouldRather(last, way.get(0))) {
            found.add(new ArrayList<>(way));
        }
        for (int g = way.get(0) + 1; g < fams.size(); g++) {
            if (!way.contains(g) && wouldRather(last, g)) {
                way.add(g);
                growRings(way, found);
                way.remove(way.size() - 1);
            }
        }
    }

    private void growChains(List<Integer> way, List<List<Integer>> found) {
        if (way.size() > 1) {
            found.add(new ArrayList<>(way));
        }
        int last = way.get(way.size() - 1);
        int[] plan = plan();
        for (int g = 0; g < plan.length; g++) {
            boolean goneTo = false;
            for (int home : plan) {
                goneTo |= home == g;
            }
            int points = fams.get(last).points + (way.size() > 1 ? worth(fams.get(last)) : 0) - worth(fams.get(g));
            if (!way.contains(g) && plan[g] == NONE && !goneTo && takes(last, g) && points >= -sets[2]) {
                way.add(g);
                growChains(way, found);
                way.remove(way.size() - 1);
            }
        }
    }

    private static boolean ahead(List<Integer> a, List<Integer> b) {
        for (int i = 0; i < a.size() && i < b.size(); i++) {
            if (!a.get(i).equals(b.get(i))) {
                return a.get(i) < b.get(i);
            }
        }
        return false;
    }

    private void pay(int guest, int host, int sign) {
        int worth = sign * worth(fams.get(host));
        fams.get(guest).points -= worth;
        fams.get(host).points += worth;
    }
}
