import java.util.NoSuchElementException;

/** A house of exchanged homes. The document's promises say what each call does; README.md tells how to use it. */
public final class HomeRings {
    public static final int NONE = -1;

    private static final int FAMILIES = 10;
    private static final int KINDS = 4;
    private static final int SHARED = 1;
    private static final int FARM = 2;
    private static final int BARN = 3;
    private static final int LAST_WEEK = 51;
    private static final int MOST_YEARS = 60;
    private static final int MOST_LIMIT = 500;
    private static final int LONGEST_STAY = 8;

    private static final int SHEET_OF_BYTES = 0;
    private static final int SHEET_MISSING = 2;
    private static final int LONGEST_SHEET = 20;
    private static final int SHEET_BELOW_ZERO = -2;

    private static final int SET_STAY = 0;
    private static final int SET_MOST = 1;
    private static final int SET_LIMIT = 2;

    /** Above any sum of ranks (at most 10 times 9), so that one family more always counts for more. */
    private static final int MERIT_OF_GOING = 100;
    /** Above any merit of going, so that one kept home more always counts for more. */
    private static final int MERIT_OF_KEEPING = 1000;

    private final Household[] households = new Household[FAMILIES];
    private final int[] goesTo = new int[FAMILIES];
    private final int[] booked = new int[MOST_YEARS * FAMILIES];
    private final int[] told = new int[FAMILIES];
    private final int[] shown = new int[FAMILIES];
    private final RingSearch ringSearch = new RingSearch();
    private final Ways ways = new Ways();
    private int families = 0;
    private int year = 0;
    private int toldCount = 0;
    private int stay = 2;
    private int most = FAMILIES;
    private int limit = 0;
    /** Whether the row is a chain that travel() may still pay. */
    private boolean chainStands = false;

    public HomeRings() {
        for (int f = 0; f < FAMILIES; f++) {
            households[f] = new Household();
            goesTo[f] = NONE;
        }
    }

    // ---- families

    public int family(int kind, int beds, int persons, boolean pet) {
        chainStands = false;
        boolean known = kind >= 0 && kind < KINDS && isOneToNine(beds) && isOneToNine(persons);
        if (!known || families >= FAMILIES) {
            return NONE;
        }
        households[families].moveIn(kind, beds, persons, pet);
        families++;
        return families - 1;
    }

    public boolean weeks(int family, int what, int from, int to) {
        chainStands = false;
        if (!isFamily(family) || from < 0 || to > LAST_WEEK || from > to) {
            return false;
        }
        if (what == 0) {
            households[family].freeFrom = from;
            households[family].freeTo = to;
            return true;
        }
        if (what == 1) {
            households[family].tripFrom = from;
            households[family].tripTo = to;
            return true;
        }
        return false;
    }

    public int wish(int family, int home) {
        chainStands = false;
        if (!canBecomeWish(family, home)) {
            return NONE;
        }
        households[family].addWish(home);
        return households[family].wishCount;
    }

    public int wishes(int family, int kind, int n, int f, int step) {
        chainStands = false;
        if (!isFamily(family) || kind < SHEET_OF_BYTES || kind > SHEET_MISSING || n > LONGEST_SHEET) {
            return NONE;
        }
        if (kind != SHEET_MISSING && n < 0) {
            return SHEET_BELOW_ZERO;
        }
        households[family].dropWishes();
        if (kind != SHEET_MISSING) {
            copySheet(family, kind == SHEET_OF_BYTES, n, f, step);
        }
        return households[family].wishCount;
    }

    public boolean bar(int a, int b, boolean is) {
        chainStands = false;
        if (!areTwo(a, b)) {
            return false;
        }
        households[a].barFrom(b, is);
        households[b].barFrom(a, is);
        return true;
    }

    public boolean in(int family, boolean is) {
        chainStands = false;
        if (!isFamily(family)) {
            return false;
        }
        households[family].present = is;
        return true;
    }

    public int set(int what, int v) {
        chainStands = false;
        int before = NONE;
        if (what == SET_STAY && v >= 1 && v <= LONGEST_STAY) {
            before = stay;
            stay = v;
        } else if (what == SET_MOST && v >= 2 && v <= FAMILIES) {
            before = most;
            most = v;
        } else if (what == SET_LIMIT && v >= 0 && v <= MOST_LIMIT) {
            before = limit;
            limit = v;
        }
        return before;
    }

    public int count(int what) {
        switch (what) {
            case 0:
                return families;
            case 1:
                return countPresent();
            case 2:
                return year;
            case 3:
                return toldCount;
            case 4:
                return countGoing();
            case 5:
                return countRings();
            case 6:
                return sumOfRanks();
            default:
                return NONE;
        }
    }

    public int of(int family, int what) throws NoSuchElementException {
        if (!isFamily(family)) {
            throw new NoSuchElementException("no such family");
        }
        Household household = households[family];
        switch (what) {
            case 0:
                return household.sleeps();
            case 1:
                return household.worth();
            case 2:
                return household.wishCount;
            case 3:
                return household.points;
            case 4:
                return goesTo[family];
            case 5:
                return firstGuest(family);
            case 6:
                return household.present ? 1 : 0;
            case 7:
                return countTaken(family);
            default:
                throw new NoSuchElementException("no such thing of a family");
        }
    }

    public int rank(int family, int home) {
        return areTwo(family, home) ? households[family].ranks[home] : NONE;
    }

    public int can(int family, int home) {
        return areTwo(family, home) ? hindrance(family, home) : NONE;
    }

    public int week(int family, int home) {
        if (!areTwo(family, home) || hindrance(family, home) != 0) {
            return NONE;
        }
        return Math.max(households[family].tripFrom, households[home].freeFrom);
    }

    // ---- plans

    public boolean put(int family, int home) {
        chainStands = false;
        if (!isFamily(family) || (home != NONE && !areTwo(family, home))) {
            return false;
        }
        goesTo[family] = home;
        return true;
    }

    public int wrong() {
        int fault = faultOfClosing();
        return fault != 0 ? fault : faultOfLength();
    }

    public int best() {
        chainStands = false;
        planRings(0);
        return countGoing();
    }

    public int mend() {
        chainStands = false;
        return planRings(MERIT_OF_KEEPING);
    }

    public int trade() {
        chainStands = false;
        clearPlan();
        int left = (1 << families) - 1;
        for (int round = 0; round < FAMILIES && left != 0; round++) {
            left = showHomes(left);
            left &= ~sendShownRing(left);
        }
        return countGoing();
    }

    public int blocks() {
        chainStands = false;
        ways.clear(families);
        for (int f = 0; f < families; f++) {
            for (int g = 0; g < families; g++) {
                if (takes(f, g) && isLiked(f, g)) {
                    ways.add(f, g);
                }
            }
        }
        int length = ways.tellShortestRing(told);
        keepRow(length);
        return length;
    }

    public int ring(int family) {
        chainStands = false;
        if (!isFamily(family)) {
            return NONE;
        }
        if (goesTo[family] == NONE || faultOfClosing() != 0) {
            return 0;
        }
        int length = ringLength(family);
        int at = family;
        for (int i = 0; i < length; i++) {
            told[i] = at;
            at = goesTo[at];
        }
        keepRow(length);
        return length;
    }

    // ---- points

    public int chain(int family) {
        chainStands = false;
        if (!isFamily(family) || goesTo[family] != NONE) {
            return NONE;
        }
        ways.clear(families);
        for (int g = 0; g < families; g++) {
            if (g != family && goesTo[g] == NONE && firstGuest(g) == NONE) {
                addChainWaysTo(g, family);
            }
        }
        int length = ways.tellLongestWay(family, told);
        keepRow(length);
        chainStands = length > 0;
        return chainStands ? length - 1 : 0;
    }

    public int travel() {
        if (!chainStands) {
            return NONE;
        }
        chainStands = false;
        for (int i = 1; i < toldCount; i++) {
            pay(told[i - 1], told[i], 1);
        }
        return toldCount - 1;
    }

    public int book() {
        chainStands = false;
        if (year >= MOST_YEARS || faultOfClosing() != 0) {
            return NONE;
        }
        int going = countGoing();
        payPlan(1);
        for (int f = 0; f < FAMILIES; f++) {
            booked[year * FAMILIES + f] = goesTo[f];
        }
        clearPlan();
        year++;
        return going;
    }

    public int went(int year, int family) {
        if (year < 0 || year >= this.year || !isFamily(family)) {
            return NONE;
        }
        return booked[year * FAMILIES + family];
    }

    public int undo() {
        chainStands = false;
        if (year == 0) {
            return NONE;
        }
        year--;
        for (int f = 0; f < FAMILIES; f++) {
            goesTo[f] = booked[year * FAMILIES + f];
        }
        payPlan(-1);
        return year;
    }

    public int row(int i) throws NoSuchElementException {
        if (i < 0 || i >= toldCount) {
            throw new NoSuchElementException("no such number of the row");
        }
        return told[i];
    }

    /** A call that found nothing told no numbers, so the row is still that of the call before it. */
    private void keepRow(int length) {
        if (length > 0) {
            toldCount = length;
        }
    }

    // ---- what families are to one another

    private static boolean isOneToNine(int number) {
        return number >= 1 && number <= 9;
    }

    private boolean isFamily(int f) {
        return f >= 0 && f < families;
    }

    private boolean areTwo(int f, int g) {
        return isFamily(f) && isFamily(g) && f != g;
    }

    private boolean canBecomeWish(int f, int home) {
        return areTwo(f, home) && households[f].ranks[home] == 0;
    }

    private void copySheet(int family, boolean bytes, int n, int first, int step) {
        for (int i = 0; i < n; i++) {
            int entry = first + i * step;
            int home = bytes ? (byte) entry : entry;
            if (!canBecomeWish(family, home)) {
                return;
            }
            households[family].addWish(home);
        }
    }

    /** The number of the first reason why f can't go to the home of g, or 0. */
    private int hindrance(int f, int g) {
        Household guest = households[f];
        Household host = households[g];
        if (!guest.present || !host.present) {
            return 1;
        }
        if (guest.isBarredFrom(g)) {
            return 2;
        }
        if (guest.persons > host.sleeps()) {
            return 3;
        }
        if (guest.pet && !host.welcomesPets()) {
            return 4;
        }
        return guest.weeksAt(host) < stay ? 5 : 0;
    }

    private boolean takes(int f, int g) {
        return households[f].ranks[g] > 0 && hindrance(f, g) == 0;
    }

    private int countTaken(int f) {
        int taken = 0;
        for (int g = 0; g < families; g++) {
            if (takes(f, g)) {
                taken++;
            }
        }
        return taken;
    }

    private int countPresent() {
        int present = 0;
        for (int f = 0; f < families; f++) {
            if (households[f].present) {
                present++;
            }
        }
        return present;
    }

    // ---- what the plan is

    private int countGoing() {
        int going = 0;
        for (int f = 0; f < families; f++) {
            if (goesTo[f] != NONE) {
                going++;
            }
        }
        return going;
    }

    private int planRank(int f) {
        return goesTo[f] == NONE ? 0 : households[f].ranks[goesTo[f]];
    }

    private int sumOfRanks() {
        int sum = 0;
        for (int f = 0; f < families; f++) {
            sum += planRank(f);
        }
        return sum;
    }

    private int firstGuest(int home) {
        for (int f = 0; f < families; f++) {
            if (goesTo[f] == home) {
                return f;
            }
        }
        return NONE;
    }

    private boolean isLiked(int f, int g) {
        int own = planRank(f);
        return own == 0 || households[f].ranks[g] < own;
    }

    private int faultOfClosing() {
        for (int f = 0; f < families; f++) {
            if (goesTo[f] != NONE && !takes(f, goesTo[f])) {
                return 10 + f;
            }
        }
        for (int f = 0; f < families; f++) {
            if (goesTo[f] != NONE && hasRival(f)) {
                return 20 + f;
            }
        }
        for (int f = 0; f < families; f++) {
            if (goesTo[f] == NONE && firstGuest(f) != NONE) {
                return 30 + f;
            }
        }
        return 0;
    }

    private boolean hasRival(int f) {
        for (int g = 0; g < families; g++) {
            if (g != f && goesTo[g] == goesTo[f]) {
                return true;
            }
        }
        return false;
    }

    /** Only for a plan that closes. */
    private int faultOfLength() {
        for (int f = 0; f < families; f++) {
            if (goesTo[f] != NONE && ringLength(f) > most) {
                return 40 + f;
            }
        }
        return 0;
    }

    /** Only for a plan that closes and a family that goes by it. */
    private int ringLength(int f) {
        int at = goesTo[f];
        int length = 1;
        while (at != f && at != NONE && length < FAMILIES) {
            at = goesTo[at];
            length++;
        }
        return length;
    }

    private int countRings() {
        if (faultOfClosing() != 0) {
            return 0;
        }
        int rings = 0;
        for (int f = 0; f < families; f++) {
            if (goesTo[f] != NONE && isLeastOfRing(f)) {
                rings++;
            }
        }
        return rings;
    }

    private boolean isLeastOfRing(int f) {
        int length = ringLength(f);
        int at = f;
        for (int i = 1; i < length; i++) {
            at = goesTo[at];
            if (at < f) {
                return false;
            }
        }
        return true;
    }

    // ---- making plans

    private void clearPlan() {
        for (int f = 0; f < FAMILIES; f++) {
            goesTo[f] = NONE;
        }
    }

    /** Makes the best plan, a kept home counting as told; answers how many families keep theirs. */
    private int planRings(int meritOfKeeping) {
        ringSearch.clear(families);
        for (int f = 0; f < families; f++) {
            for (int g = 0; g < families; g++) {
                if (takes(f, g)) {
                    int kept = goesTo[f] == g ? meritOfKeeping : 0;
                    ringSearch.allow(f, g, kept + MERIT_OF_GOING - households[f].ranks[g]);
                }
            }
        }
        return ringSearch.replacePlan(goesTo, most);
    }

    /** Lets those leave who take none of the homes left, and all others show theirs; answers who is left. */
    private int showHomes(int left) {
        int still = left;
        for (int leavers = 0; leavers < FAMILIES; leavers++) {
            int leaver = firstWithoutHome(still);
            if (leaver == NONE) {
                return still;
            }
            still &= ~(1 << leaver);
        }
        return still;
    }

    private int firstWithoutHome(int left) {
        for (int f = 0; f < families; f++) {
            if ((left >> f & 1) == 1) {
                shown[f] = likedMost(f, left);
                if (shown[f] == NONE) {
                    return f;
                }
            }
        }
        return NONE;
    }

    private int likedMost(int f, int left) {
        int liked = NONE;
        for (int g = 0; g < families; g++) {
            boolean open = (left >> g & 1) == 1 && takes(f, g);
            if (open && (liked == NONE || households[f].ranks[g] < households[f].ranks[liked])) {
                liked = g;
            }
        }
        return liked;
    }

    /** Those of the ring with the least number go as they show; answers who they are. */
    private int sendShownRing(int left) {
        for (int f = 0; f < families; f++) {
            if ((left >> f & 1) == 1 && comesRound(f)) {
                return sendAsShown(f);
            }
        }
        return 0;
    }

    private boolean comesRound(int f) {
        int at = shown[f];
        for (int i = 0; i < families && at != f; i++) {
            at = shown[at];
        }
        return at == f;
    }

    private int sendAsShown(int f) {
        int gone = 0;
        int at = f;
        for (int i = 0; i < families && (gone >> at & 1) == 0; i++) {
            gone |= 1 << at;
            goesTo[at] = shown[at];
            at = shown[at];
        }
        return gone;
    }

    // ---- paying

    /** Only the first of a chain goes unpaid, so whether one can pay hangs on no other part of the chain. */
    private void addChainWaysTo(int home, int first) {
        int worth = households[home].worth();
        for (int f = 0; f < families; f++) {
            int paid = f == first ? 0 : households[f].worth();
            if (takes(f, home) && households[f].points + paid - worth >= -limit) {
                ways.add(f, home);
            }
        }
    }

    private void pay(int guest, int host, int sign) {
        int worth = households[host].worth();
        households[guest].points -= sign * worth;
        households[host].points += sign * worth;
    }

    private void payPlan(int sign) {
        for (int f = 0; f < families; f++) {
            if (goesTo[f] != NONE) {
                pay(f, goesTo[f], sign);
            }
        }
    }

    /** A family and its home. */
    private static final class Household {
        private final int[] ranks = new int[FAMILIES];
        private int wishCount = 0;
        private int kind = 0;
        private int beds = 0;
        private int persons = 0;
        private boolean pet = false;
        private boolean present = true;
        private int freeFrom = 0;
        private int freeTo = LAST_WEEK;
        private int tripFrom = 0;
        private int tripTo = LAST_WEEK;
        private int barred = 0;
        private int points = 0;

        void moveIn(int kindOfHome, int bedsOfHome, int heads, boolean withPet) {
            kind = kindOfHome;
            beds = bedsOfHome;
            persons = heads;
            pet = withPet;
        }

        int sleeps() {
            return kind == SHARED || kind == BARN ? beds - 1 : beds;
        }

        int worth() {
            int more = kind == FARM ? 5 : kind == BARN ? 15 : 0;
            return 10 * sleeps() + more;
        }

        boolean welcomesPets() {
            return kind == FARM || kind == BARN;
        }

        int weeksAt(Household host) {
            return Math.min(tripTo, host.freeTo) - Math.max(tripFrom, host.freeFrom) + 1;
        }

        void addWish(int home) {
            wishCount++;
            ranks[home] = wishCount;
        }

        void dropWishes() {
            wishCount = 0;
            for (int g = 0; g < FAMILIES; g++) {
                ranks[g] = 0;
            }
        }

        void barFrom(int other, boolean is) {
            barred = is ? barred | 1 << other : barred & ~(1 << other);
        }

        boolean isBarredFrom(int other) {
            return (barred >> other & 1) == 1;
        }
    }

    /** Ways from family to family, the homes of each as bits; a set of families is a number with a bit for each. */
    private static final class Ways {
        private final int[] homes = new int[FAMILIES];
        /** At k: those from which k steps lead to the start of a ring. */
        private final int[] before = new int[FAMILIES + 1];
        /** At a set: those of it from which one way goes through all of it. */
        private final int[] starts = new int[1 << FAMILIES];
        private int size = 0;

        void clear(int families) {
            size = families;
            for (int f = 0; f < FAMILIES; f++) {
                homes[f] = 0;
            }
        }

        void add(int from, int home) {
            homes[from] |= 1 << home;
        }

        /** Tells the first of the shortest rings, and answers its length; without one 0, and the row stays as it is. */
        int tellShortestRing(int[] row) {
            int shortest = FAMILIES + 1;
            int start = 0;
            for (int f = 0; f < size; f++) {
                int length = lengthFrom(f);
                if (length > 0 && length < shortest) {
                    shortest = length;
                    start = f;
                }
            }
            if (shortest > FAMILIES) {
                return 0;
            }
            lengthFrom(start);
            int at = start;
            for (int i = 0; i < shortest; i++) {
                row[i] = at;
                at = leastOf(homes[at] & before[shortest - 1 - i]);
            }
            return shortest;
        }

        /** Of the shortest way round from the start along greater numbers; it crosses itself only if another ring is shorter. */
        private int lengthFrom(int start) {
            before[0] = 1 << start;
            for (int length = 1; length <= size; length++) {
                if ((homes[start] & before[length - 1]) != 0) {
                    return length;
                }
                before[length] = 0;
                for (int f = start + 1; f < size; f++) {
                    if ((homes[f] & before[length - 1]) != 0) {
                        before[length] |= 1 << f;
                    }
                }
            }
            return 0;
        }

        /** Tells the first of the longest ways that meet none twice, and answers how many are on it; without one as above. */
        int tellLongestWay(int from, int[] row) {
            findStarts();
            int steps = mostSteps(from);
            if (steps == 0) {
                return 0;
            }
            int met = 1 << from;
            int at = from;
            row[0] = from;
            for (int i = 1; i <= steps; i++) {
                at = leastOf(homes[at] & startsApart(met, steps + 1 - i));
                met |= 1 << at;
                row[i] = at;
            }
            return steps + 1;
        }

        private void findStarts() {
            for (int set = 1; set < 1 << size; set++) {
                boolean single = (set & (set - 1)) == 0;
                starts[set] = single ? set : startsWithin(set);
            }
        }

        private int startsWithin(int set) {
            int found = 0;
            for (int f = 0; f < size; f++) {
                int bit = 1 << f;
                if ((set & bit) != 0 && (homes[f] & starts[set ^ bit]) != 0) {
                    found |= bit;
                }
            }
            return found;
        }

        private int mostSteps(int from) {
            int steps = 0;
            for (int set = 1; set < 1 << size; set++) {
                boolean apart = (set >> from & 1) == 0;
                if (apart && (homes[from] & starts[set]) != 0) {
                    steps = Math.max(steps, Integer.bitCount(set));
                }
            }
            return steps;
        }

        private int startsApart(int met, int count) {
            int found = 0;
            for (int set = 1; set < 1 << size; set++) {
                if ((set & met) == 0 && Integer.bitCount(set) == count) {
                    found |= starts[set];
                }
            }
            return found;
        }

        private static int leastOf(int set) {
            for (int f = 0; f < FAMILIES; f++) {
                if ((set >> f & 1) == 1) {
                    return f;
                }
            }
            return 0;
        }
    }

    /**
     * Looks for the best rings, set by set of families.
     * A score is a plan's merit and below it, taken away, the plan itself as a number of ten digits, one for each
     * family: so of equal merits the first plan scores most, no two plans score alike, and the plan is read from its score.
     */
    private static final class RingSearch {
        private static final int DIGITS = FAMILIES + 1;
        private static final int STAYS = FAMILIES;
        /** 11 to the power of 10: above every plan's number. */
        private static final long ONE_MERIT = 25937424601L;
        /** Far below every score. */
        private static final long MISSING = -1L << 62;
        private static final int OTHERS = FAMILIES - 1;

        private final long[] places = new long[FAMILIES];
        private final long[] scores = new long[FAMILIES * FAMILIES];
        /** At a set of those above a ring's start and the last one of it: the most that a way through it scores. */
        private final long[] open = new long[(1 << OTHERS) * OTHERS];
        private final long[] rings = new long[1 << FAMILIES];
        private final long[] settled = new long[1 << FAMILIES];
        private int size = 0;

        RingSearch() {
            long place = 1;
            for (int f = FAMILIES - 1; f >= 0; f--) {
                places[f] = place;
                place *= DIGITS;
            }
        }

        void clear(int families) {
            size = families;
            for (int i = 0; i < scores.length; i++) {
                scores[i] = MISSING;
            }
        }

        void allow(int from, int home, int merit) {
            scores[from * FAMILIES + home] = merit * ONE_MERIT - home * places[from];
        }

        /** Puts the best plan with rings no longer than told; answers how many go where they went by the plan before. */
        int replacePlan(int[] plan, int longest) {
            findRings(longest);
            settleAll();
            return readPlan(settled[0], plan);
        }

        private void findRings(int longest) {
            for (int set = 0; set < 1 << size; set++) {
                rings[set] = MISSING;
            }
            for (int start = 0; start < size; start++) {
                openWays(start);
                growWays(start, longest);
            }
        }

        private void openWays(int start) {
            int others = size - 1 - start;
            int cells = (1 << others) * OTHERS;
            for (int i = 0; i < cells; i++) {
                open[i] = MISSING;
            }
            for (int k = 0; k < others; k++) {
                open[(1 << k) * OTHERS + k] = scores[start * FAMILIES + start + 1 + k];
            }
        }

        private void growWays(int start, int longest) {
            int others = size - 1 - start;
            for (int set = 1; set < 1 << others; set++) {
                int length = Integer.bitCount(set) + 1;
                for (int k = 0; k < others && length <= longest; k++) {
                    if (open[set * OTHERS + k] != MISSING) {
                        closeWay(start, set, k);
                        if (length < longest) {
                            growWay(start, set, k);
                        }
                    }
                }
            }
        }

        private void closeWay(int start, int set, int last) {
            long back = scores[(start + 1 + last) * FAMILIES + start];
            if (back != MISSING) {
                int members = set << (start + 1) | 1 << start;
                rings[members] = Math.max(rings[members], open[set * OTHERS + last] + back);
            }
        }

        private void growWay(int start, int set, int last) {
            int others = size - 1 - start;
            int from = (start + 1 + last) * FAMILIES + start + 1;
            for (int k = 0; k < others; k++) {
                if ((set >> k & 1) == 0 && scores[from + k] != MISSING) {
                    int cell = (set | 1 << k) * OTHERS + k;
                    open[cell] = Math.max(open[cell], open[set * OTHERS + last] + scores[from + k]);
                }
            }
        }

        /** At a set of families: the most that all others score, the set being left; at 0 all are settled. */
        private void settleAll() {
            int all = (1 << size) - 1;
            for (int set = 0; set < all; set++) {
                settled[set] = MISSING;
            }
            settled[all] = 0;
            for (int set = all; set > 0; set--) {
                if (settled[set] != MISSING) {
                    settleFirst(set);
                }
            }
        }

        private void settleFirst(int set) {
            int rest = set & (set - 1);
            int bit = set ^ rest;
            int first = Integer.bitCount(bit - 1);
            settled[rest] = Math.max(settled[rest], settled[set] - STAYS * places[first]);
            for (int with = rest; with > 0; with = (with - 1) & rest) {
                if (rings[with | bit] != MISSING) {
                    int left = rest ^ with;
                    settled[left] = Math.max(settled[left], settled[set] + rings[with | bit]);
                }
            }
        }

        private int readPlan(long score, int[] plan) {
            long number = Math.floorMod(-score, ONE_MERIT);
            int kept = 0;
            for (int f = FAMILIES - 1; f >= 0; f--) {
                int digit = (int) (number % DIGITS);
                number /= DIGITS;
                int home = f < size && digit != STAYS ? digit : NONE;
                if (home != NONE && home == plan[f]) {
                    kept++;
                }
                plan[f] = home;
            }
            return kept;
        }
    }
}
