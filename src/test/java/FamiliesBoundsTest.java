/** Promises 1 to 13, sentence by sentence: what is too small, too large, empty, full, at its edge or refused. */
public final class FamiliesBoundsTest {
    private static final Check check = new Check();
    private static final int NONE = HomeRings.NONE;
    private static final int BIG = Integer.MAX_VALUE;
    private static final int SMALL = Integer.MIN_VALUE;

    public static void main(String[] args) throws Exception {
        Sentences.runAll(FamiliesBoundsTest.class, check, 1, 13);
        check.end("FamiliesBoundsTest");
    }

    // ---- 1: a new object

    @Sentence(promise = 1, says = "No FAMILIES")
    private static void newHasNoFamilies() {
        HomeRings x = new HomeRings();
        check.due("count(0)", x.count(0), 0);
        check.due("count(1)", x.count(1), 0);
        check.dueOfThrows(x, 0, 0);
        check.due("weeks(0, 0, 0, 51)", x.weeks(0, 0, 0, 51), false);
        check.due("wish(0, 1)", x.wish(0, 1), NONE);
        check.due("wishes(0, 2, 0, 0, 0)", x.wishes(0, 2, 0, 0, 0), NONE);
        check.due("bar(0, 1, true)", x.bar(0, 1, true), false);
        check.due("in(0, true)", x.in(0, true), false);
        check.due("rank(0, 1)", x.rank(0, 1), NONE);
        check.due("can(0, 1)", x.can(0, 1), NONE);
        check.due("week(0, 1)", x.week(0, 1), NONE);
        check.due("put(0, NONE)", x.put(0, NONE), false);
        check.due("ring(0)", x.ring(0), NONE);
        check.due("chain(0)", x.chain(0), NONE);
    }

    @Sentence(promise = 1, says = "year 0")
    private static void newIsInYearZero() {
        HomeRings x = new HomeRings();
        check.due("count(2)", x.count(2), 0);
        check.due("went(0, 0)", x.went(0, 0), NONE);
        check.due("undo()", x.undo(), NONE);
    }

    @Sentence(promise = 1, says = "THE PLAN: none goes at first")
    private static void newPlanIsEmpty() {
        HomeRings x = new HomeRings();
        check.due("count(4)", x.count(4), 0);
        check.due("count(5)", x.count(5), 0);
        check.due("count(6)", x.count(6), 0);
        check.due("wrong()", x.wrong(), 0);
    }

    @Sentence(promise = 1, says = "ROW: numbers told last by a call that says so")
    private static void newRowIsEmpty() {
        check.dueRow(new HomeRings());
    }

    @Sentence(promise = 1, says = "A new object")
    private static void newIsApartFromOthers() {
        HomeRings other = Check.lived();
        HomeRings x = new HomeRings();
        check.due("count(0)", x.count(0), 0);
        check.due("count(2)", x.count(2), 0);
        check.due("count(3)", x.count(3), 0);
        x.family(0, 1, 1, false);
        check.due("count(0) of the other", other.count(0), 3);
    }

    // ---- 2: family

    @Sentence(promise = 2, says = "NONE: no such KIND")
    private static void familyKind() {
        HomeRings x = Check.lived();
        for (int kind : new int[] {-1, 4, BIG, SMALL}) {
            check.dueRefused("family(" + kind + ", 1, 1)", y -> y.family(kind, 1, 1, false));
        }
        check.due("family(0, 1, 1)", x.family(0, 1, 1, false), 3);
        check.due("family(3, 1, 1)", x.family(3, 1, 1, false), 4);
    }

    @Sentence(promise = 2, says = "NONE: no such .. BEDS")
    private static void familyBeds() {
        HomeRings x = Check.lived();
        for (int beds : new int[] {0, -1, 10, BIG, SMALL}) {
            check.dueRefused("family(0, " + beds + ", 1)", y -> y.family(0, beds, 1, false));
        }
        check.due("family(0, 1, 1)", x.family(0, 1, 1, false), 3);
        check.due("family(0, 9, 1)", x.family(0, 9, 1, false), 4);
        check.dueOf(x, 3, 0, 1);
        check.dueOf(x, 4, 0, 9);
    }

    @Sentence(promise = 2, says = "NONE: no such .. PERSONS")
    private static void familyPersons() {
        HomeRings x = Check.lived();
        for (int persons : new int[] {0, -1, 10, BIG, SMALL}) {
            check.dueRefused("family(0, 1, " + persons + ")", y -> y.family(0, 1, persons, false));
        }
        check.due("family(0, 9, 1)", x.family(0, 9, 1, false), 3);
        check.due("family(0, 8, 9)", x.family(0, 8, 9, false), 4);
        check.due("nine persons to nine", x.can(4, 3), 0);
        check.due("one person to eight", x.can(3, 4), 0);
    }

    @Sentence(promise = 2, says = "NONE: .. 10")
    private static void familyEleventh() {
        HomeRings x = new HomeRings();
        for (int f = 0; f < 10; f++) {
            check.due("family " + f, x.family(0, 1, 1, false), f);
        }
        check.due("the eleventh", x.family(0, 1, 1, false), NONE);
        check.due("once more", x.family(3, 9, 9, true), NONE);
        check.due("count(0)", x.count(0), 10);
        check.dueOfThrows(x, 10, 0);
        check.dueOf(x, 9, 0, 1);
    }

    @Sentence(promise = 2, says = "its number")
    private static void familyNumberBehindRefused() {
        HomeRings x = new HomeRings();
        x.family(4, 1, 1, false);
        check.due("behind a refused one", x.family(0, 1, 1, false), 0);
        x.family(0, 0, 1, false);
        x.family(0, 1, 10, false);
        check.due("behind refused ones", x.family(0, 1, 1, false), 1);
    }

    @Sentence(promise = 2, says = "FREE and can go in all weeks")
    private static void familyAllWeeks() {
        HomeRings x = Check.farms(2);
        x.set(0, 1);
        for (int week : new int[] {0, 51}) {
            x.weeks(0, 0, week, week);
            check.due("1 can go in week " + week, x.week(1, 0), week);
            x.weeks(0, 1, week, week);
            check.due("1 is free in week " + week, x.week(0, 1), week);
        }
    }

    @Sentence(promise = 2, says = "POINTS (0 at first), IN or not (IN at first), WISHES")
    private static void familyAtFirst() {
        HomeRings x = Check.lived();
        x.family(1, 4, 1, true);
        check.dueOf(x, 3, 2, 0);
        check.dueOf(x, 3, 3, 0);
        check.dueOf(x, 3, 6, 1);
        check.dueOf(x, 3, 7, 0);
        check.due("not barred", x.can(0, 3), 0);
        check.due("no wish of others", x.rank(0, 3), 0);
    }

    @Sentence(promise = 2, says = "a new FAMILY goes nowhere")
    private static void familyGoesNowhere() {
        HomeRings x = Check.lived();
        x.family(0, 1, 1, false);
        check.duePlan(x, 1, 0, -1, -1);
        check.dueOf(x, 3, 5, NONE);
    }

    // ---- 3: weeks

    @Sentence(promise = 3, says = "weeks (0 .. 51): below 0")
    private static void weeksBelowZero() {
        HomeRings x = Check.lived();
        for (int what = 0; what < 2; what++) {
            int is = what;
            check.dueFalse("weeks(0, " + is + ", -1, 5)", y -> y.weeks(0, is, -1, 5));
            check.dueFalse("weeks(0, " + is + ", -2, -1)", y -> y.weeks(0, is, -2, -1));
            check.dueFalse("weeks(0, " + is + ", SMALL, 5)", y -> y.weeks(0, is, SMALL, 5));
            check.due("weeks(0, " + is + ", 0, 5)", x.weeks(0, is, 0, 5), true);
        }
    }

    @Sentence(promise = 3, says = "weeks (0 .. 51): above 51")
    private static void weeksAbove51() {
        HomeRings x = Check.lived();
        for (int what = 0; what < 2; what++) {
            int is = what;
            check.dueFalse("weeks(0, " + is + ", 5, 52)", y -> y.weeks(0, is, 5, 52));
            check.dueFalse("weeks(0, " + is + ", 52, 52)", y -> y.weeks(0, is, 52, 52));
            check.dueFalse("weeks(0, " + is + ", 5, BIG)", y -> y.weeks(0, is, 5, BIG));
            check.due("weeks(0, " + is + ", 5, 51)", x.weeks(0, is, 5, 51), true);
            check.due("weeks(0, " + is + ", 51, 51)", x.weeks(0, is, 51, 51), true);
        }
    }

    @Sentence(promise = 3, says = "none less than the one ahead")
    private static void weeksInOrder() {
        HomeRings x = Check.lived();
        for (int what = 0; what < 2; what++) {
            int is = what;
            check.dueFalse("weeks(0, " + is + ", 8, 7)", y -> y.weeks(0, is, 8, 7));
            check.dueFalse("weeks(0, " + is + ", 51, 0)", y -> y.weeks(0, is, 51, 0));
            check.due("weeks(0, " + is + ", 7, 7)", x.weeks(0, is, 7, 7), true);
        }
        check.due("weeks(0, 0, 40, 50)", x.weeks(0, 0, 40, 50), true);
        check.due("those to go in may lie ahead of the free ones", x.weeks(0, 1, 3, 4), true);
    }

    @Sentence(promise = 3, says = "FREE (what 0), in which it can go (1) .. false for others: what")
    private static void weeksWhat() {
        for (int what : new int[] {-1, 2, BIG, SMALL}) {
            check.dueFalse("weeks(0, " + what + ", 1, 2)", y -> y.weeks(0, what, 1, 2));
        }
    }

    @Sentence(promise = 3, says = "false for others: FAMILIES")
    private static void weeksFamily() {
        HomeRings x = Check.lived();
        for (int family : Check.NO_FAMILIES) {
            check.dueFalse("weeks(" + family + ", 0, 1, 2)", y -> y.weeks(family, 0, 1, 2));
            check.dueFalse("weeks(" + family + ", 1, 1, 2)", y -> y.weeks(family, 1, 1, 2));
        }
        check.due("the last family", x.weeks(2, 0, 1, 2), true);
    }

    @Sentence(promise = 3, says = "Weeks in which a FAMILY's home is FREE (what 0), in which it can go (1)")
    private static void weeksReplace() {
        HomeRings x = Check.farms(2);
        x.weeks(1, 0, 10, 20);
        x.weeks(1, 0, 30, 40);
        check.due("only the later ones are free", x.week(0, 1), 30);
        check.due("it can go in all as before", x.week(1, 0), 0);
        x.weeks(0, 1, 35, 51);
        x.weeks(0, 1, 0, 31);
        check.due("only the later ones to go in", x.week(0, 1), 30);
        check.due("its home is free in all as before", x.week(1, 0), 0);
    }

    // ---- 4: wish

    @Sentence(promise = 4, says = "NONE: no such FAMILIES")
    private static void wishFamilies() {
        HomeRings x = Check.lived();
        for (int family : Check.NO_FAMILIES) {
            check.dueRefused("wish(" + family + ", 1)", y -> y.wish(family, 1));
            check.dueRefused("wish(1, " + family + ")", y -> y.wish(1, family));
        }
        check.due("the last home", x.wish(1, 2), 2);
        check.due("the last family", x.wish(2, 1), 2);
    }

    @Sentence(promise = 4, says = "NONE: .. its own home")
    private static void wishOwn() {
        for (int f = 0; f < 3; f++) {
            int own = f;
            check.dueRefused("wish(" + f + ", " + f + ")", y -> y.wish(own, own));
        }
    }

    @Sentence(promise = 4, says = "NONE: .. or it is there")
    private static void wishThere() {
        HomeRings x = Check.lived();
        check.dueRefused("the first again", y -> y.wish(0, 1));
        check.dueRefused("the last again", y -> y.wish(0, 2));
        check.due("of another family it is not there", x.wish(2, 1), 2);
    }

    @Sentence(promise = 4, says = "A WISH more behind the others of a FAMILY: how many it has")
    private static void wishFull() {
        HomeRings x = Check.farms(10);
        check.dueOf(x, 9, 2, 0);
        for (int home = 8; home >= 0; home--) {
            check.due("wish(9, " + home + ")", x.wish(9, home), 9 - home);
        }
        for (int home = 0; home < 10; home++) {
            check.due("full: wish(9, " + home + ")", x.wish(9, home), NONE);
        }
        check.dueOf(x, 9, 2, 9);
        check.due("first", x.rank(9, 8), 1);
        check.due("last", x.rank(9, 0), 9);
    }

    // ---- 5: wishes

    @Sentence(promise = 5, says = "-2: n below 0 (of kinds 0, 1)")
    private static void wishesBelowZero() {
        for (int kind = 0; kind < 2; kind++) {
            int is = kind;
            check.dueNoChange(Check.lived(), "n -1 of kind " + kind, y -> y.wishes(0, is, -1, 2, 0), -2);
            check.dueNoChange(Check.lived(), "n SMALL of kind " + kind, y -> y.wishes(0, is, SMALL, 2, 0), -2);
        }
    }

    @Sentence(promise = 5, says = "-2: n below 0 (of kinds 0, 1), so not of a missing one")
    private static void wishesMissingBelowZero() {
        HomeRings x = Check.lived();
        check.due("n -1", x.wishes(0, 2, -1, 2, 0), 0);
        check.dueOf(x, 0, 2, 0);
        check.due("n SMALL", x.wishes(1, 2, SMALL, 2, 0), 0);
        check.dueOf(x, 1, 2, 0);
    }

    @Sentence(promise = 5, says = "n entries: none")
    private static void wishesEmptySheet() {
        HomeRings x = Check.lived();
        check.due("no bytes", x.wishes(0, 0, 0, 1, 1), 0);
        check.dueOf(x, 0, 2, 0);
        check.due("no ints", x.wishes(1, 1, 0, 0, 1), 0);
        check.dueOf(x, 1, 2, 0);
        check.due("rank", x.rank(0, 1), 0);
    }

    @Sentence(promise = 5, says = "how many (of a missing one none)")
    private static void wishesMissing() {
        HomeRings x = Check.lived();
        check.due("n 0", x.wishes(0, 2, 0, 1, 1), 0);
        check.dueOf(x, 0, 2, 0);
        x.wish(0, 1);
        check.due("n 20", x.wishes(0, 2, 20, 1, 1), 0);
        check.dueOf(x, 0, 2, 0);
        check.due("rank", x.rank(0, 1), 0);
    }

    @Sentence(promise = 5, says = "NONE: no such FAMILY")
    private static void wishesFamily() {
        HomeRings x = Check.lived();
        for (int family : Check.NO_FAMILIES) {
            for (int kind = 0; kind < 3; kind++) {
                int is = kind;
                check.due("family " + family + ", kind " + kind, x.wishes(family, is, 1, 0, 1), NONE);
            }
        }
        check.dueRefused("family 3", y -> y.wishes(3, 1, 1, 0, 1));
    }

    @Sentence(promise = 5, says = "NONE: no such .. kind")
    private static void wishesKind() {
        for (int kind : new int[] {-1, 3, BIG, SMALL}) {
            check.dueRefused("kind " + kind, y -> y.wishes(0, kind, 1, 2, 0));
        }
    }

    @Sentence(promise = 5, says = "NONE: .. n above 20")
    private static void wishesAbove20() {
        HomeRings x = Check.lived();
        for (int kind = 0; kind < 3; kind++) {
            int is = kind;
            check.dueRefused("n 21 of kind " + kind, y -> y.wishes(0, is, 21, 2, 0));
            check.dueRefused("n BIG of kind " + kind, y -> y.wishes(0, is, BIG, 2, 0));
        }
        check.due("n 20 of bytes", x.wishes(0, 0, 20, 2, 0), 1);
        check.due("n 20 of ints", x.wishes(0, 1, 20, 2, -1), 2);
        check.due("n 20 of a missing one", x.wishes(0, 2, 20, 2, 0), 0);
    }

    @Sentence(promise = 5, says = "(asked first)")
    private static void wishesAskedFirst() {
        check.dueRefused("no family, n below 0", y -> y.wishes(3, 0, -1, 2, 0));
        check.dueRefused("no family, n below 0", y -> y.wishes(-1, 1, SMALL, 2, 0));
        check.dueRefused("no kind, n below 0", y -> y.wishes(0, 3, -1, 2, 0));
        check.dueRefused("no kind, n below 0", y -> y.wishes(0, -1, SMALL, 2, 0));
        check.dueRefused("a missing one, n above 20", y -> y.wishes(0, 2, 21, 2, 0));
    }

    @Sentence(promise = 5, says = "up to the first that can be none: no FAMILY")
    private static void wishesUpToNoFamily() {
        HomeRings x = Check.farms(4);
        for (int kind = 0; kind < 2; kind++) {
            check.due("3, 4, ..", x.wishes(0, kind, 5, 3, 1), 1);
            check.due("1, 0, -1, ..", x.wishes(2, kind, 5, 1, -1), 2);
            check.due("4, 3, ..: the first is none", x.wishes(0, kind, 5, 4, -1), 0);
            check.dueOf(x, 0, 2, 0);
            check.due("-1, 0, ..: the first is none", x.wishes(2, kind, 5, -1, 1), 0);
            check.due("2, 4, 6: what lies behind is not read", x.wishes(0, kind, 3, 2, 2), 1);
        }
    }

    @Sentence(promise = 5, says = "up to the first that can be none: its own home")
    private static void wishesUpToOwn() {
        HomeRings x = Check.farms(4);
        for (int kind = 0; kind < 2; kind++) {
            check.due("0, 1, own, 3", x.wishes(2, kind, 4, 0, 1), 2);
            check.due("3 lies behind its own", x.rank(2, 3), 0);
            check.due("own first", x.wishes(2, kind, 4, 2, 1), 0);
            check.due("own last", x.wishes(3, kind, 4, 0, 1), 3);
        }
    }

    @Sentence(promise = 5, says = "up to the first that can be none: WISHES are unlike")
    private static void wishesUpToTwice() {
        HomeRings x = Check.farms(4);
        for (int kind = 0; kind < 2; kind++) {
            check.due("3, 3, ..", x.wishes(0, kind, 20, 3, 0), 1);
            check.due("rank", x.rank(0, 3), 1);
        }
        check.due("bytes 1, 129, 1: 129 has a sign", x.wishes(0, 0, 3, 1, 128), 1);
        check.due("bytes 1, 257: the same byte", x.wishes(0, 0, 2, 1, 256), 1);
    }

    @Sentence(promise = 5, says = "the WISHES are its entries: not those of before")
    private static void wishesReplace() {
        HomeRings x = Check.farms(4);
        x.wishes(0, 1, 3, 1, 1);
        check.due("the same sheet again", x.wishes(0, 1, 3, 1, 1), 3);
        check.due("a shorter one", x.wishes(0, 0, 1, 3, 1), 1);
        check.due("first now", x.rank(0, 3), 1);
        check.due("gone", x.rank(0, 1), 0);
        check.due("gone", x.rank(0, 2), 0);
        check.due("one more behind it", x.wish(0, 1), 2);
    }

    @Sentence(promise = 5, says = "n entries: all homes")
    private static void wishesFull() {
        HomeRings x = Check.farms(10);
        check.due("up", x.wishes(9, 1, 20, 0, 1), 9);
        check.due("last", x.rank(9, 8), 9);
        check.due("down", x.wishes(0, 0, 20, 9, -1), 9);
        check.due("last", x.rank(0, 1), 9);
        check.due("as many as n", x.wishes(0, 0, 4, 9, -1), 4);
    }

    @Sentence(promise = 5, says = "of bytes the lowest 8 bits with a sign")
    private static void wishesBytes() {
        HomeRings x = Check.farms(4);
        int[] zeros = {256, -256, 512, SMALL, 0x7fffff00};
        for (int entry : zeros) {
            check.due("byte of " + entry, x.wishes(1, 0, 1, entry, 0), 1);
            check.due("is 0", x.rank(1, 0), 1);
            check.due("as an int it is none", x.wishes(1, 1, 1, entry, 0), 0);
        }
        for (int entry : new int[] {255, -1, 128, 129, BIG, 127, 4}) {
            check.due("byte of " + entry, x.wishes(1, 0, 1, entry, 0), 0);
        }
        check.due("257, 514, 771", x.wishes(0, 0, 3, 257, 257), 3);
        check.due("third", x.rank(0, 3), 3);
        check.due("the last byte up to 0", x.wishes(1, 0, 2, 259, -3), 2);
        check.due("0 is second", x.rank(1, 0), 2);
    }

    @Sentence(promise = 5, says = "f, f + step, .. (as ints go)")
    private static void wishesWrapAround() {
        HomeRings x = Check.farms(4);
        check.due("1 and BIG more is SMALL", x.wishes(0, 1, 3, 1, BIG), 1);
        check.due("1 and SMALL more", x.wishes(0, 1, 3, 1, SMALL), 1);
        check.due("BIG first", x.wishes(0, 1, 3, BIG, 1), 0);
        check.due("SMALL first", x.wishes(0, 1, 3, SMALL, -1), 0);
        check.due("bytes 1, 2, 3 past BIG", x.wishes(0, 0, 3, 1, 0x7fffff01), 3);
        check.due("second", x.rank(0, 2), 2);
        check.due("third", x.rank(0, 3), 3);
        check.due("bytes 3, 2, 1 past SMALL", x.wishes(0, 0, 3, 0x80000003, -257), 3);
        check.due("third", x.rank(0, 1), 3);
        check.due("BIG's byte, then 0", x.wishes(1, 0, 2, 0x7fffff02, 0xfe), 2);
        check.due("second", x.rank(1, 0), 2);
    }

    // ---- 6: bar

    @Sentence(promise = 6, says = "false for none such")
    private static void barFamilies() {
        HomeRings x = Check.lived();
        for (int family : Check.NO_FAMILIES) {
            check.dueFalse("bar(0, " + family + ")", y -> y.bar(0, family, true));
            check.dueFalse("bar(" + family + ", 0)", y -> y.bar(family, 0, true));
        }
        check.due("bar(SMALL, BIG)", x.bar(SMALL, BIG, false), false);
        check.due("the first and the last", x.bar(0, 2, true), true);
    }

    @Sentence(promise = 6, says = "false for .. one to itself")
    private static void barItself() {
        for (int f = 0; f < 3; f++) {
            int own = f;
            check.dueFalse("bar itself", y -> y.bar(own, own, true));
            check.dueFalse("bar itself no more", y -> y.bar(own, own, false));
        }
    }

    @Sentence(promise = 6, says = "BARRED to one another, or not: true (as it was)")
    private static void barAgain() {
        HomeRings x = Check.lived();
        check.dueNoChange(x, "again", y -> y.bar(1, 2, true) ? 1 : 0, 1);
        check.dueNoChange(x, "again, the other way", y -> y.bar(2, 1, true) ? 1 : 0, 1);
        check.dueNoChange(x, "they were not", y -> y.bar(0, 1, false) ? 1 : 0, 1);
        check.due("no more, the other way", x.bar(2, 1, false), true);
        check.due("can(1, 2)", x.can(1, 2), 0);
    }

    @Sentence(promise = 6, says = "Two FAMILIES are BARRED to one another")
    private static void barOneAnother() {
        HomeRings x = Check.farms(10);
        x.bar(0, 9, true);
        check.due("can(0, 9)", x.can(0, 9), 2);
        check.due("can(9, 0)", x.can(9, 0), 2);
        check.due("can(0, 8)", x.can(0, 8), 0);
        check.due("can(1, 9)", x.can(1, 9), 0);
        x.bar(0, 8, true);
        x.bar(9, 0, false);
        check.due("can(0, 9)", x.can(0, 9), 0);
        check.due("can(9, 0)", x.can(9, 0), 0);
        check.due("can(8, 0)", x.can(8, 0), 2);
    }

    // ---- 7: in

    @Sentence(promise = 7, says = "false for none such")
    private static void inFamily() {
        HomeRings x = Check.lived();
        for (int family : Check.NO_FAMILIES) {
            check.dueFalse("in(" + family + ", false)", y -> y.in(family, false));
            check.dueFalse("in(" + family + ", true)", y -> y.in(family, true));
        }
        check.due("the last family", x.in(2, false), true);
    }

    @Sentence(promise = 7, says = "A FAMILY is IN, or not: true (as it was)")
    private static void inAgain() {
        HomeRings x = Check.lived();
        check.dueNoChange(x, "in again", y -> y.in(0, true) ? 1 : 0, 1);
        x.in(0, false);
        check.dueNoChange(x, "out again", y -> y.in(0, false) ? 1 : 0, 1);
        check.due("count(1)", x.count(1), 2);
        x.in(1, false);
        x.in(2, false);
        check.due("none is in", x.count(1), 0);
        check.due("but three there are", x.count(0), 3);
    }

    @Sentence(promise = 7, says = "(THE PLAN stays as it is.)")
    private static void inLeavesThePlan() {
        HomeRings x = Check.lived();
        x.in(0, false);
        check.duePlan(x, 1, 0, -1);
        check.due("count(4)", x.count(4), 2);
        check.due("it does not close", x.wrong(), 10);
        x.in(0, true);
        check.duePlan(x, 1, 0, -1);
        check.due("it closes again", x.wrong(), 0);
    }

    // ---- 8: set

    /** What set() answers to a value that is refused, and to one at the edge. */
    private static void edges(int what, int least, int most, int first) {
        for (int v : new int[] {least - 1, most + 1, BIG, SMALL}) {
            HomeRings x = Check.lived();
            check.dueNoChange(x, "set(" + what + ", " + v + ")", y -> y.set(what, v), NONE);
            check.due("behind set(" + what + ", " + v + ")", x.set(what, least), first);
        }
        HomeRings x = new HomeRings();
        check.due("the least", x.set(what, least), first);
        check.due("the greatest", x.set(what, most), least);
        check.due("as it is", x.set(what, most), most);
    }

    @Sentence(promise = 8, says = "STAY (what 0): n (1 .. 8 weeks, at first 2)")
    private static void setStay() {
        edges(0, 1, 8, 2);
    }

    @Sentence(promise = 8, says = "MOST (1): (2 .. 10, at first 10)")
    private static void setMost() {
        edges(1, 2, 10, 10);
    }

    @Sentence(promise = 8, says = "LIMIT (2; 0 .. 500, at first 0)")
    private static void setLimit() {
        edges(2, 0, 500, 0);
    }

    @Sentence(promise = 8, says = "NONE: another what")
    private static void setWhat() {
        for (int what : new int[] {-1, 3, BIG, SMALL}) {
            HomeRings x = Check.lived();
            check.dueNoChange(x, "set(" + what + ", 5)", y -> y.set(what, 5), NONE);
            check.due("STAY", x.set(0, 2), 2);
            check.due("MOST", x.set(1, 10), 10);
            check.due("LIMIT", x.set(2, 0), 0);
        }
    }

    @Sentence(promise = 8, says = "becomes v: each alone")
    private static void setEachAlone() {
        HomeRings x = new HomeRings();
        x.set(0, 3);
        x.set(1, 4);
        x.set(2, 5);
        check.due("STAY", x.set(0, 8), 3);
        check.due("MOST", x.set(1, 8), 4);
        check.due("LIMIT", x.set(2, 8), 5);
    }

    // ---- 9: count

    @Sentence(promise = 9, says = "NONE for another what")
    private static void countWhat() {
        for (int what : new int[] {-1, 7, 8, BIG, SMALL}) {
            check.dueRefused("count(" + what + ")", y -> y.count(what));
        }
    }

    @Sentence(promise = 9, says = "What 0: FAMILIES, 1: those IN")
    private static void countFamilies() {
        HomeRings x = Check.farms(10);
        check.due("ten", x.count(0), 10);
        check.due("all in", x.count(1), 10);
        x.in(9, false);
        x.in(0, false);
        check.due("ten", x.count(0), 10);
        check.due("eight in", x.count(1), 8);
    }

    @Sentence(promise = 9, says = "2: the year")
    private static void countYear() {
        HomeRings x = new HomeRings();
        for (int year = 0; year < 60; year++) {
            check.due("year", x.count(2), year);
            x.book();
        }
        check.due("the last", x.count(2), 60);
        x.book();
        check.due("refused", x.count(2), 60);
        x.undo();
        check.due("taken back", x.count(2), 59);
    }

    @Sentence(promise = 9, says = "3: numbers of the ROW")
    private static void countRow() {
        HomeRings x = Check.wishing(Check.circle(10));
        check.due("none", x.count(3), 0);
        x.best();
        check.due("best() tells none", x.count(3), 0);
        x.ring(4);
        check.due("ten", x.count(3), 10);
        x.ring(10);
        check.due("as told last", x.count(3), 10);
    }

    @Sentence(promise = 9, says = "4: FAMILIES that go by THE PLAN")
    private static void countGoers() {
        HomeRings x = Check.farms(10);
        check.due("none", x.count(4), 0);
        for (int f = 1; f < 10; f++) {
            x.put(f, 0);
            check.due("to one home", x.count(4), f);
        }
        x.put(0, 9);
        check.due("all", x.count(4), 10);
    }

    @Sentence(promise = 9, says = "5: RINGS of it (0 if it does not CLOSE)")
    private static void countRings() {
        HomeRings x = Check.wishing(new int[][] {{1}, {0}, {3, 0}, {2}, {0}});
        check.due("none goes", x.count(5), 0);
        Check.putAll(x, 1, 0, 3, 2, -1);
        check.due("two", x.count(5), 2);
        x.put(4, 0);
        check.due("two go to one home", x.count(5), 0);
        x.put(4, 1);
        check.due("no wish", x.count(5), 0);
        Check.putAll(x, 1, 0, 3, -1, -1);
        check.due("one does not go itself", x.count(5), 0);
        Check.putAll(x, 1, 0, 3, 2, -1);
        x.in(0, false);
        check.due("one can't go", x.count(5), 0);
    }

    @Sentence(promise = 9, says = "5: RINGS .. (MOST does not matter)")
    private static void countRingsOfAnyLength() {
        HomeRings x = Check.wishing(Check.circle(10));
        x.best();
        x.set(1, 2);
        check.due("one of ten", x.count(5), 1);
        HomeRings y = Check.farms(10);
        for (int f = 0; f < 10; f++) {
            y.wish(f, f ^ 1);
            y.put(f, f ^ 1);
        }
        y.set(1, 2);
        check.due("five of two", y.count(5), 5);
    }

    @Sentence(promise = 9, says = "6: the sum of RANKS of those that go")
    private static void countRanks() {
        HomeRings x = Check.farms(10);
        for (int f = 0; f < 10; f++) {
            for (int i = 2; i <= 10; i++) {
                x.wish(f, (f + i) % 10 == f ? (f + 1) % 10 : (f + i) % 10);
            }
        }
        check.due("none goes", x.count(6), 0);
        for (int f = 0; f < 10; f++) {
            x.put(f, (f + 1) % 10);
        }
        check.due("all to the last wish", x.count(6), 90);
        x.put(0, 2);
        check.due("one to the first", x.count(6), 82);
        x.put(0, NONE);
        check.due("one nowhere", x.count(6), 81);
    }

    @Sentence(promise = 9, says = "6: .. (0 for each home that is no WISH)")
    private static void countRanksOfNoWish() {
        HomeRings x = Check.wishing(new int[][] {{1}, {2, 0}, {}});
        Check.putAll(x, 2, 0, 0);
        check.due("one wish of three", x.count(6), 2);
        x.put(1, NONE);
        check.due("no wish", x.count(6), 0);
        x.put(0, 1);
        x.in(1, false);
        check.due("a wish that it can't go to", x.count(6), 1);
    }

    // ---- 10: of

    @Sentence(promise = 10, says = "NoSuchElementException: none such")
    private static void ofFamily() {
        HomeRings x = Check.lived();
        String before = State.of(x);
        for (int family : Check.NO_FAMILIES) {
            for (int what = 0; what < 8; what++) {
                check.dueOfThrows(x, family, what);
            }
        }
        check.due("nothing changed", State.of(x).equals(before), true);
    }

    @Sentence(promise = 10, says = "NoSuchElementException: .. another what")
    private static void ofWhat() {
        HomeRings x = Check.lived();
        String before = State.of(x);
        for (int what : new int[] {-1, 8, BIG, SMALL}) {
            for (int f = 0; f < 3; f++) {
                check.dueOfThrows(x, f, what);
            }
            check.dueOfThrows(x, -1, what);
        }
        check.due("nothing changed", State.of(x).equals(before), true);
    }

    @Sentence(promise = 10, says = "what 0: what its home sleeps: BEDS, of SHARED and BARN BEDS less 1")
    private static void ofSleeps() {
        HomeRings x = new HomeRings();
        int[] least = {1, 0, 1, 0};
        int[] most = {9, 8, 9, 8};
        for (int kind = 0; kind < 4; kind++) {
            x.family(kind, 1, 1, false);
            x.family(kind, 9, 1, false);
            check.dueOf(x, 2 * kind, 0, least[kind]);
            check.dueOf(x, 2 * kind + 1, 0, most[kind]);
        }
    }

    @Sentence(promise = 10, says = "1: WORTH: 10 for each it sleeps; of a FARM 5 more, of a BARN 15 more")
    private static void ofWorth() {
        HomeRings x = new HomeRings();
        int[] least = {10, 0, 15, 15};
        int[] most = {90, 80, 95, 95};
        for (int kind = 0; kind < 4; kind++) {
            x.family(kind, 1, 1, false);
            x.family(kind, 9, 1, false);
            check.dueOf(x, 2 * kind, 1, least[kind]);
            check.dueOf(x, 2 * kind + 1, 1, most[kind]);
        }
    }

    @Sentence(promise = 10, says = "2: WISHES")
    private static void ofWishes() {
        HomeRings x = Check.farms(10);
        check.dueOf(x, 9, 2, 0);
        x.wishes(9, 1, 20, 0, 1);
        check.dueOf(x, 9, 2, 9);
        check.dueOf(x, 8, 2, 0);
    }

    @Sentence(promise = 10, says = "3: POINTS (0 at first)")
    private static void ofPoints() {
        HomeRings x = Check.homes(new int[][] {{1}, {0}});
        check.duePoints(x, 0, 0);
        x.best();
        x.book();
        check.duePoints(x, -10, 10);
        x.undo();
        check.duePoints(x, 0, 0);
    }

    @Sentence(promise = 10, says = "4: to whose home it goes by THE PLAN (NONE)")
    private static void ofGoes() {
        HomeRings x = Check.farms(10);
        check.dueOf(x, 0, 4, NONE);
        x.put(0, 9);
        check.dueOf(x, 0, 4, 9);
        x.put(9, 0);
        check.dueOf(x, 9, 4, 0);
        x.put(0, NONE);
        check.dueOf(x, 0, 4, NONE);
    }

    @Sentence(promise = 10, says = "5: who comes to its home by it (NONE; the least number)")
    private static void ofComes() {
        HomeRings x = Check.farms(10);
        check.dueOf(x, 5, 5, NONE);
        for (int f = 9; f >= 0; f--) {
            if (f != 5) {
                x.put(f, 5);
                check.dueOf(x, 5, 5, f);
            }
        }
        x.put(0, NONE);
        check.dueOf(x, 5, 5, 1);
        check.dueOf(x, 0, 5, NONE);
    }

    @Sentence(promise = 10, says = "6: IN (1, 0)")
    private static void ofIn() {
        HomeRings x = Check.farms(2);
        check.dueOf(x, 1, 6, 1);
        x.in(1, false);
        check.dueOf(x, 1, 6, 0);
        check.dueOf(x, 0, 6, 1);
    }

    @Sentence(promise = 10, says = "7: how many homes it TAKES")
    private static void ofTakes() {
        HomeRings x = Check.farms(10);
        check.dueOf(x, 0, 7, 0);
        x.wishes(0, 1, 9, 1, 1);
        check.dueOf(x, 0, 7, 9);
        x.in(9, false);
        check.dueOf(x, 0, 7, 8);
        x.bar(0, 1, true);
        check.dueOf(x, 0, 7, 7);
        x.weeks(2, 0, 0, 0);
        check.dueOf(x, 0, 7, 6);
        x.in(0, false);
        check.dueOf(x, 0, 7, 0);
        HomeRings y = Check.wishing(new int[][] {{}, {0}, {}});
        check.dueOf(y, 1, 7, 1);
        y.in(2, false);
        check.dueOf(y, 1, 7, 1);
    }

    // ---- 11: rank

    @Sentence(promise = 11, says = "NONE: none such")
    private static void rankFamilies() {
        HomeRings x = Check.lived();
        for (int family : Check.NO_FAMILIES) {
            check.due("rank(0, " + family + ")", x.rank(0, family), NONE);
            check.due("rank(" + family + ", 0)", x.rank(family, 0), NONE);
            check.due("rank twice " + family, x.rank(family, family), NONE);
        }
    }

    @Sentence(promise = 11, says = "NONE: .. or its own")
    private static void rankOwn() {
        HomeRings x = Check.lived();
        for (int f = 0; f < 3; f++) {
            check.due("rank(" + f + ", " + f + ")", x.rank(f, f), NONE);
        }
    }

    @Sentence(promise = 11, says = "RANK: its place in the WISHES, from 1 on; 0 if it is not there")
    private static void rankPlaces() {
        HomeRings x = Check.farms(10);
        x.wishes(9, 1, 8, 0, 1);
        for (int home = 0; home < 8; home++) {
            check.due("rank(9, " + home + ")", x.rank(9, home), home + 1);
        }
        check.due("not there", x.rank(9, 8), 0);
        check.due("not there", x.rank(0, 9), 0);
        x.wish(9, 8);
        check.due("the last", x.rank(9, 8), 9);
        x.bar(9, 0, true);
        x.in(0, false);
        check.due("one to which it can't go", x.rank(9, 0), 1);
    }

    // ---- 12: can

    @Sentence(promise = 12, says = "NONE: none such")
    private static void canFamilies() {
        HomeRings x = Check.lived();
        for (int family : Check.NO_FAMILIES) {
            check.due("can(0, " + family + ")", x.can(0, family), NONE);
            check.due("can(" + family + ", 0)", x.can(family, 0), NONE);
            check.due("can twice " + family, x.can(family, family), NONE);
        }
    }

    @Sentence(promise = 12, says = "NONE: .. or its own")
    private static void canOwn() {
        HomeRings x = Check.lived();
        x.in(2, false);
        for (int f = 0; f < 3; f++) {
            check.due("can(" + f + ", " + f + ")", x.can(f, f), NONE);
        }
    }

    @Sentence(promise = 12, says = "the first of these that is not so")
    private static void canFirstReason() {
        HomeRings x = new HomeRings();
        x.family(0, 9, 3, true);
        x.family(0, 2, 1, false);
        x.family(0, 3, 1, false);
        x.family(2, 3, 1, false);
        for (int home = 1; home < 4; home++) {
            x.weeks(home, 0, 0, 0);
            x.bar(0, home, true);
            x.in(home, false);
            check.due("out, and all else", x.can(0, home), 1);
            x.in(home, true);
            check.due("barred, and all else", x.can(0, home), 2);
            x.bar(0, home, false);
        }
        check.due("persons, the pet and weeks", x.can(0, 1), 3);
        check.due("the pet and weeks", x.can(0, 2), 4);
        check.due("weeks", x.can(0, 3), 5);
        x.weeks(3, 0, 0, 1);
        check.due("all is so", x.can(0, 3), 0);
    }

    @Sentence(promise = 12, says = "1 both are IN")
    private static void canIn() {
        HomeRings x = Check.farms(3);
        x.in(0, false);
        check.due("the guest is out", x.can(0, 1), 1);
        check.due("the host is out", x.can(1, 0), 1);
        check.due("both are in", x.can(1, 2), 0);
        x.in(1, false);
        check.due("both are out", x.can(0, 1), 1);
    }

    @Sentence(promise = 12, says = "3 PERSONS: no more than it sleeps")
    private static void canPersons() {
        HomeRings x = new HomeRings();
        for (int kind = 0; kind < 4; kind++) {
            x.family(kind, 4, 1, false);
        }
        int[] three = {0, 0, 0, 0};
        int[] four = {0, 3, 0, 3};
        x.family(0, 9, 3, false);
        x.family(0, 9, 4, false);
        x.family(0, 9, 5, false);
        for (int kind = 0; kind < 4; kind++) {
            check.due("three to kind " + kind, x.can(4, kind), three[kind]);
            check.due("four to kind " + kind, x.can(5, kind), four[kind]);
            check.due("five to kind " + kind, x.can(6, kind), 3);
        }
    }

    @Sentence(promise = 12, says = "SHARED: sleeps BEDS less 1, BARN: as SHARED (one bed: none)")
    private static void canSleepNobody() {
        HomeRings x = new HomeRings();
        x.family(1, 1, 1, false);
        x.family(3, 1, 1, false);
        x.family(2, 1, 1, false);
        check.due("one to SHARED with one bed", x.can(2, 0), 3);
        check.due("one to a BARN with one bed", x.can(2, 1), 3);
        check.due("one to a FARM with one bed", x.can(0, 2), 0);
    }

    @Sentence(promise = 12, says = "4 the PET: welcome at a FARM, a BARN")
    private static void canPet() {
        HomeRings x = new HomeRings();
        for (int kind = 0; kind < 4; kind++) {
            x.family(kind, 9, 1, false);
        }
        x.family(0, 9, 1, true);
        int[] due = {4, 4, 0, 0};
        for (int kind = 0; kind < 4; kind++) {
            check.due("with a pet to kind " + kind, x.can(4, kind), due[kind]);
            check.due("the host's pet does not matter", x.can(kind, 4), 0);
        }
    }

    @Sentence(promise = 12, says = "5 the weeks: at least n weeks are both")
    private static void canWeeks() {
        HomeRings x = Check.farms(2);
        for (int stay = 1; stay <= 8; stay++) {
            x.set(0, stay);
            x.weeks(0, 1, 10, 10 + stay - 1);
            check.due("just enough to go in, " + stay, x.can(0, 1), 0);
            x.weeks(1, 0, 10 + stay - 1, 30);
            check.due("one both, " + stay, x.can(0, 1), stay == 1 ? 0 : 5);
            x.weeks(0, 1, 0, 51);
            x.weeks(1, 0, 51 - stay + 1, 51);
            check.due("just enough at the end, " + stay, x.can(0, 1), 0);
            x.weeks(0, 1, 0, 50);
            check.due("one less, " + stay, x.can(0, 1), 5);
            x.weeks(1, 0, 0, 51);
        }
        x.set(0, 1);
        x.weeks(0, 1, 10, 20);
        x.weeks(1, 0, 21, 30);
        check.due("none both, the free ones behind", x.can(0, 1), 5);
        x.weeks(1, 0, 0, 9);
        check.due("none both, the free ones ahead", x.can(0, 1), 5);
        x.weeks(1, 0, 20, 20);
        check.due("one both", x.can(0, 1), 0);
    }

    // ---- 13: week

    @Sentence(promise = 13, says = "NONE if it CAN not: none such, its own")
    private static void weekFamilies() {
        HomeRings x = Check.lived();
        for (int family : Check.NO_FAMILIES) {
            check.due("week(0, " + family + ")", x.week(0, family), NONE);
            check.due("week(" + family + ", 0)", x.week(family, 0), NONE);
        }
        for (int f = 0; f < 3; f++) {
            check.due("week(" + f + ", " + f + ")", x.week(f, f), NONE);
        }
    }

    @Sentence(promise = 13, says = "NONE if it CAN not")
    private static void weekCanNot() {
        HomeRings x = new HomeRings();
        x.family(2, 9, 3, true);
        x.family(2, 3, 1, false);
        x.family(2, 2, 1, false);
        x.family(0, 9, 1, false);
        check.due("it can", x.week(0, 1), 0);
        check.due("persons", x.week(0, 2), NONE);
        check.due("the pet", x.week(0, 3), NONE);
        x.bar(0, 1, true);
        check.due("barred", x.week(0, 1), NONE);
        x.bar(0, 1, false);
        x.in(1, false);
        check.due("out", x.week(0, 1), NONE);
        x.in(1, true);
        x.weeks(1, 0, 51, 51);
        check.due("the weeks", x.week(0, 1), NONE);
    }

    @Sentence(promise = 13, says = "The first week of n .. (the least such)")
    private static void weekLeast() {
        HomeRings x = Check.farms(2);
        check.due("the first of all", x.week(0, 1), 0);
        x.weeks(0, 1, 20, 40);
        x.weeks(1, 0, 10, 30);
        check.due("the first in which it can go", x.week(0, 1), 20);
        x.weeks(1, 0, 21, 30);
        check.due("the first that is free", x.week(0, 1), 21);
        x.weeks(1, 0, 20, 30);
        check.due("both at once", x.week(0, 1), 20);
    }

    @Sentence(promise = 13, says = "The first week of n: the last weeks")
    private static void weekLast() {
        HomeRings x = Check.farms(2);
        x.set(0, 8);
        x.weeks(1, 0, 44, 51);
        check.due("eight at the end", x.week(0, 1), 44);
        x.weeks(1, 0, 45, 51);
        check.due("seven at the end", x.week(0, 1), NONE);
        x.set(0, 1);
        x.weeks(1, 0, 51, 51);
        check.due("one at the end", x.week(0, 1), 51);
        x.weeks(1, 0, 0, 0);
        check.due("one at the beginning", x.week(0, 1), 0);
    }
}
