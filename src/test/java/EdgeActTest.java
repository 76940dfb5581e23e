/** Boundary cases of the ACTS and of what one is (promises 7, 8, 11 to 18). Each method is a test of one sentence. */
final class EdgeActTest {
    private static final int MIN = Integer.MIN_VALUE;
    private static final int MAX = Integer.MAX_VALUE;

    /** 0 of AGE a governs 1 of AGE b, ROUND r, STEP s. */
    private static CribLine two(int a, int b, int r, int s) {
        return Check.of("round " + r + ";step " + s + ";person girl age " + a + ";person boy age " + b + ";governs 0 1;governs 1 0");
    }

    // ---- Promise 7

    /** "NoSuchElementException: another what": 0 to 10 are, none beside. */
    static void whats() {
        CribLine x = two(1, 2, 90, 1);
        for (int what = 0; what <= 10; what++) x.person(0, what);
        for (int what : new int[] {-1, 11, 12, 255, 256, MIN, MAX}) Check.refused("what " + what, Edge.NO_WHAT, () -> x.person(0, what));
    }

    /** "there is no such PERSON" goes ahead of "another what". */
    static void nobodyAheadOfWhat() {
        CribLine x = two(1, 2, 90, 1);
        for (int person : new int[] {-1, 2, 7, 8, MIN, MAX}) Check.refused("person " + person, Edge.NOBODY, () -> x.person(person, 11));
    }

    /** "SHARE .. in hundredths of all rows of no, rounded down (0 without)". */
    static void share() {
        CribLine x = Check.of("person girl age 40;person boy age 30;person boy age 20;governs 0 1;governs 0 2;governs 1 0");
        Check.due("without a row", x.person(1, 10), 0);
        x.say(0, 1, true);
        Check.due("without a row of no", x.person(1, 10), 0);
        x.say(0, 1, false);
        Check.due("all rows of no", x.person(1, 10), 100);
        Check.due("none of its own", x.person(2, 10), 0);
        x.say(0, 2, false);
        Check.due("the half", x.person(2, 10), 50);
        x.say(0, 1, false);
        Check.due("66.67", x.person(1, 10), 66);
        Check.due("33.33", x.person(2, 10), 33);
        Check.due("who said them", x.person(0, 10), 0);
    }

    /** SHARE by the 60 rows of THE LOG alone. */
    static void shareOfSixtyRows() {
        CribLine x = Check.of("person girl age 40;person boy age 30;person boy age 20;governs 0 1;governs 0 2");
        x.say(0, 2, false);
        for (int i = 0; i < 59; i++) x.say(0, 1, false);
        Check.due("1 of 60", x.person(2, 10), 1);
        Check.due("59 of 60", x.person(1, 10), 98);
        x.say(0, 1, false);
        Check.due("its row is gone", x.person(2, 10), 0);
        Check.due("60 of 60", x.person(1, 10), 100);
    }

    // ---- Promise 11: A SAYING

    /** "a no: AGE is what it WEIGHS less; if that is below 0, ROUND more, and TURNS is 1 more": 0 is not below 0. */
    static void noToZero() {
        CribLine x = two(0, 5, 90, 5);
        Check.due("5 less 5", x.say(0, 1, false), 0);
        Check.due("TURNS", x.person(1, 1), 0);
        Check.due("0 less 5", x.say(0, 1, false), 85);
        Check.due("TURNS", x.person(1, 1), 1);
        CribLine y = two(0, 4, 90, 5);
        Check.due("4 less 5", y.say(0, 1, false), 89);
        Check.due("TURNS", y.person(1, 1), 1);
    }

    /** "a yes: as much more; if that is ROUND at least, ROUND less, and TURNS is 1 less": ROUND itself is at least. */
    static void yesToRound() {
        CribLine x = two(0, 84, 90, 5);
        Check.due("84 and 5", x.say(0, 1, true), 89);
        Check.due("TURNS", x.person(1, 1), 0);
        CribLine y = two(0, 85, 90, 5);
        Check.due("85 and 5", y.say(0, 1, true), 0);
        Check.due("TURNS", y.person(1, 1), -1);
        CribLine z = two(0, 86, 90, 5);
        Check.due("86 and 5", z.say(0, 1, true), 1);
        Check.due("TURNS", z.person(1, 1), -1);
    }

    /** The most that a word can WEIGH is ROUND less 1: one turn at most. */
    static void heaviestWord() {
        CribLine x = two(0, 0, 20, 19);
        Check.due("0 less 19", x.say(0, 1, false), 1);
        Check.due("TURNS", x.person(1, 1), 1);
        CribLine y = two(0, 19, 20, 19);
        Check.due("19 and 19", y.say(0, 1, true), 18);
        Check.due("TURNS", y.person(1, 1), -1);
    }

    /** A word that WEIGHS nothing leaves AGE and TURNS, at 0 and at ROUND less 1, and is a row all the same. */
    static void lightestWord() {
        CribLine x = two(0, 89, 90, 0);
        Check.due("no at 0", x.say(1, 0, false), 0);
        Check.due("yes at 89", x.say(0, 1, true), 89);
        Check.due("TURNS of all", x.count(8), 0);
        Check.due("rows", x.count(11), 2);
        Check.due("ACTS", x.count(12), 2);
    }

    /** The least ring. */
    static void roundOfTwo() {
        CribLine x = two(0, 1, 2, 1);
        Check.due("1 to 0", x.say(0, 1, false), 0);
        Check.due("0 to 1", x.say(0, 1, false), 1);
        Check.due("one turn", x.person(1, 1), 1);
        Check.due("1 to 0 by yes", x.say(0, 1, true), 0);
        Check.due("and back", x.person(1, 1), 0);
    }

    /** "TURNS is 1 more (99 at most)". */
    static void turnsTo99() {
        CribLine x = two(0, 0, 2, 1);
        for (int i = 0; i < 98; i++) {
            x.say(0, 1, false);
            x.say(0, 1, false);
        }
        Check.due("98", x.person(1, 1), 98);
        x.say(0, 1, false);
        Check.due("99", x.person(1, 1), 99);
        x.say(0, 1, false);
        Check.due("AGE goes on", x.say(0, 1, false), 1);
        Check.due("99 at most", x.person(1, 1), 99);
        Check.due("back round", x.say(0, 1, true), 0);
        Check.due("98", x.person(1, 1), 98);
    }

    /** "TURNS is 1 less (- 99 at least)". */
    static void turnsToMinus99() {
        CribLine x = two(0, 1, 2, 1);
        for (int i = 0; i < 98; i++) {
            x.say(0, 1, true);
            x.say(0, 1, true);
        }
        Check.due("- 98", x.person(1, 1), -98);
        x.say(0, 1, true);
        Check.due("- 99", x.person(1, 1), -99);
        x.say(0, 1, true);
        Check.due("AGE goes on", x.say(0, 1, true), 0);
        Check.due("- 99 at least", x.person(1, 1), -99);
        Check.due("back round", x.say(0, 1, false), 1);
        Check.due("- 98", x.person(1, 1), -98);
    }

    /** "IllegalStateException: the first one does not govern the other one": nor itself. */
    static void sayWithoutGoverning() {
        CribLine x = Check.of("person girl age 40;person boy age 30;governs 0 1");
        Check.refused("the other way", Edge.CANNOT, () -> x.say(1, 0, true));
        Check.refused("to itself", Edge.CANNOT, () -> x.say(0, 0, true));
        x.govern(0, 1, false);
        Check.refused("not any more", Edge.CANNOT, () -> x.say(0, 1, false));
    }

    /** 7 says to 0 and 0 to 7. */
    static void sayAtBothEnds() {
        CribLine x = Check.of("person boy age 10;" + "person boy age 1;".repeat(6) + "person boy age 20;governs 0 7;governs 7 0");
        Check.due("7 to 0", x.say(7, 0, false), 9);
        Check.due("0 to 7", x.say(0, 7, true), 21);
        Check.refused("7 to 8", Edge.NOBODY, () -> x.say(7, 8, true));
    }

    // ---- Promise 12: a birth

    /** "AGE the half of ROUND, rounded down". */
    static void bornInTheMiddle() {
        int[] round = {2, 3, 4, 89, 90, 98, 99};
        for (int r : round) {
            CribLine x = Check.of("round " + r + ";person girl age 0");
            Check.due("born", x.bear(0, true), 1);
            Check.due("AGE by ROUND " + r, x.person(1, 0), r / 2);
        }
        CribLine y = Check.of("round 99;person girl age 0");
        y.bear(0, false);
        Check.due("49, not 50", y.person(1, 0), 49);
    }

    /** "all else as at first", "GOVERNED by its PARENT". */
    static void bornAsAtFirst() {
        CribLine x = Check.of("person boy age 1;person girl age 40 wants 9 stern 8 permits 7;governs 0 1;wed 0 1");
        Check.due("born", x.bear(1, true), 2);
        int[] due = {45, 0, 1, 1, -1, 0, 50, 0, 0b10, 0, 0};
        for (int what = 0; what < due.length; what++) Check.due("what " + what, x.person(2, what), due[what]);
        for (int other = 0; other < 2; other++) {
            Check.due("LENT by it", x.lent(2, other), 0);
            Check.due("LENT to it", x.lent(other, 2), 0);
        }
        Check.due("whom the PARENT governs", x.person(1, 9), 0b100);
    }

    /** "SORT told". */
    static void sortIsTold() {
        CribLine x = Check.of("person girl age 40");
        x.bear(0, true);
        x.bear(0, false);
        Check.due("girl", x.person(1, 2), 1);
        Check.due("boy", x.person(2, 2), 0);
    }

    /** All else as at first, though one of that number had been there and was undone. */
    static void bornWhereOneWasUndone() {
        CribLine x = Check.of("person girl age 40 permits 3;person boy age 20");
        x.bear(0, true);
        x.lend(0, 2);
        x.lend(0, 2);
        x.use(2);
        x.wed(1, 2);
        x.govern(1, 2, true);
        x.govern(2, 0, true);
        x.stern(2, 7);
        for (int i = 0; i < 8; i++) Check.due("undone", x.undo(), true);
        x.bear(0, false);
        int[] due = {45, 0, 0, 0, -1, 0, 50, 0, 1, 0, 0};
        for (int what = 0; what < due.length; what++) Check.due("what " + what, x.person(2, what), due[what]);
        Check.due("LENT to it", x.lent(0, 2), 0);
    }

    /** "IllegalStateException: .. or there are 8". */
    static void eightAreAll() {
        CribLine x = Check.of("person girl age 40;" + "person boy age 1;".repeat(5) + "person boy age 6");
        Check.due("the eighth", x.bear(0, true), 7);
        Check.refused("a ninth", Edge.CANNOT, () -> x.bear(0, true));
        Check.refused("a ninth, of the eighth", Edge.CANNOT, () -> x.bear(7, true));
        x.undo();
        Check.due("the eighth again", x.bear(0, true), 7);
    }

    /** "IllegalStateException: that one is a boy". */
    static void boysBearNone() {
        CribLine x = Check.of("person girl age 40;person boy age 1");
        Check.refused("a boy", Edge.CANNOT, () -> x.bear(1, true));
        x.bear(0, true);
        Check.due("a girl just born does", x.bear(2, true), 3);
    }

    // ---- Promises 13, 14: a wedding, a parting

    /** "A wedding: GAP". */
    static void weddingTellsTheGap() {
        Check.due("0", two(7, 7, 90, 1).wed(0, 1), 0);
        Check.due("round the ring", two(0, 89, 90, 1).wed(1, 0), 1);
        Check.due("the half", two(0, 45, 90, 1).wed(0, 1), 45);
    }

    /** "of unlike SORTS". */
    static void weddingOfUnlikeSorts() {
        CribLine x = Check.of("person girl age 1;person girl age 2;person boy age 3;person boy age 4");
        Check.refused("girls", Edge.CANNOT, () -> x.wed(0, 1));
        Check.refused("boys", Edge.CANNOT, () -> x.wed(3, 2));
        Check.due("girl and boy", x.wed(0, 2), 2);
        Check.due("boy and girl", x.wed(3, 1), 2);
    }

    /** "neither with a SPOUSE": the first, the second, each other. */
    static void weddingWithoutASpouse() {
        CribLine x = Check.of("person girl age 1;person boy age 2;person girl age 3;person boy age 4;wed 0 1");
        Check.refused("the first has one", Edge.CANNOT, () -> x.wed(0, 3));
        Check.refused("the second has one", Edge.CANNOT, () -> x.wed(3, 0));
        Check.refused("each other", Edge.CANNOT, () -> x.wed(0, 1));
        Check.refused("each other", Edge.CANNOT, () -> x.wed(1, 0));
        x.part(1);
        Check.due("behind a parting", x.wed(3, 0), 3);
    }

    /** "not PARENT and child": either way; others of kin may. */
    static void weddingNotOfParentAndChild() {
        CribLine x = Check.of("person girl age 1;person boy age 2 of 0;person girl age 3 of 1;person girl age 4 of 0");
        Check.refused("PARENT and child", Edge.CANNOT, () -> x.wed(0, 1));
        Check.refused("child and PARENT", Edge.CANNOT, () -> x.wed(1, 0));
        Check.refused("PARENT and child", Edge.CANNOT, () -> x.wed(1, 2));
        Check.due("children of one PARENT", x.wed(1, 3), 2);
        CribLine y = Check.of("person girl age 1;person boy age 2 of 0;person boy age 3 of 1");
        Check.due("PARENT'S PARENT", y.wed(0, 2), 2);
    }

    /** "IllegalArgumentException: both are one" goes ahead of "it may not be"; nobody ahead of both. */
    static void weddingExceptions() {
        CribLine x = two(1, 2, 90, 1);
        Check.refused("one", Edge.NONE_SUCH, () -> x.wed(0, 0));
        Check.refused("nobody twice", Edge.NOBODY, () -> x.wed(2, 2));
        Check.refused("nobody first", Edge.NOBODY, () -> x.wed(-1, 0));
        Check.refused("nobody second", Edge.NOBODY, () -> x.wed(0, 2));
    }

    /** "A parting: who the SPOUSE was": of 0 and of 7, and neither has one then. */
    static void partingOfBoth() {
        CribLine x = Check.of("person girl age 1;" + "person boy age 1;".repeat(6) + "person boy age 7;wed 0 7");
        Check.due("of 0", x.part(0), 7);
        Check.due("those with one", x.count(10), 0);
        x.wed(0, 7);
        Check.due("of 7", x.part(7), 0);
        Check.due("of 0", x.person(0, 4), -1);
        Check.due("of 7", x.person(7, 4), -1);
    }

    /** "IllegalStateException: there is none". */
    static void partingWithoutASpouse() {
        CribLine x = two(1, 2, 90, 1);
        Check.refused("none at first", Edge.CANNOT, () -> x.part(0));
        x.wed(0, 1);
        x.part(0);
        Check.refused("none any more", Edge.CANNOT, () -> x.part(0));
        Check.refused("nor the other one", Edge.CANNOT, () -> x.part(1));
    }

    // ---- Promises 8, 15, 16: PERMITS

    /** "A PERMIT is lent: PERMITS of the first one then": the last one. */
    static void lendTheLast() {
        CribLine x = Check.of("person girl age 1 permits 1;person boy age 2");
        Check.due("0 then", x.lend(0, 1), 0);
        Check.due("1 more", x.person(1, 7), 1);
        Check.due("LENT", x.lent(0, 1), 1);
        Check.due("LENT the other way", x.lent(1, 0), 0);
    }

    /** "IllegalStateException: it has none". */
    static void lendNone() {
        CribLine x = Check.of("person girl age 1 permits 1;person boy age 2");
        Check.refused("it has none", Edge.CANNOT, () -> x.lend(1, 0));
        x.lend(0, 1);
        Check.refused("it has none any more", Edge.CANNOT, () -> x.lend(0, 1));
        Check.due("but that one has", x.lend(1, 0), 0);
    }

    /** "the other one has 9": 8 may be 9, 9 may not be 10. */
    static void lendToNine() {
        CribLine x = Check.of("person girl age 1 permits 9;person boy age 2 permits 8");
        Check.due("to 8", x.lend(0, 1), 8);
        Check.due("9", x.person(1, 7), 9);
        Check.refused("to 9", Edge.CANNOT, () -> x.lend(0, 1));
        x.use(1);
        Check.due("to 8 again", x.lend(0, 1), 7);
    }

    /** "or LENT is 9": 8 may be 9, 9 may not be 10. */
    static void lentToNine() {
        CribLine x = Check.of("person girl age 1 permits 9;person boy age 2;person boy age 3 permits 9");
        for (int i = 1; i <= 9; i++) {
            x.lend(0, 1);
            x.use(1);
            Check.due("LENT", x.lent(0, 1), i);
        }
        x.lend(2, 0);
        Check.refused("LENT is 9", Edge.CANNOT, () -> x.lend(0, 1));
        Check.due("to another one", x.lend(0, 2), 0);
        x.lend(2, 1);
        Check.due("the other way LENT is 0", x.lend(1, 0), 0);
    }

    /** LENT is told of two, in order: "IllegalArgumentException: both are one". */
    static void lentOfOne() {
        CribLine x = two(1, 2, 90, 1);
        Check.refused("one", Edge.NONE_SUCH, () -> x.lent(1, 1));
        Check.refused("nobody", Edge.NOBODY, () -> x.lent(2, 2));
        Check.refused("nobody", Edge.NOBODY, () -> x.lent(0, 8));
        Check.refused("nobody", Edge.NOBODY, () -> x.lent(8, 0));
        Check.due("nothing", x.lent(0, 1), 0);
    }

    /** "both are one" goes ahead of "it has none". */
    static void lendToOneself() {
        CribLine x = two(1, 2, 90, 1);
        Check.refused("one", Edge.NONE_SUCH, () -> x.lend(0, 0));
        Check.refused("nobody twice", Edge.NOBODY, () -> x.lend(9, 9));
    }

    /** "one tells oneself a yes that WEIGHS STEP by ROUND (what is left)": STEP of ROUND, above it, 0. */
    static void useByRound() {
        String one = ";person girl age 3 permits 9";
        Check.due("STEP 19 of 20", Check.of("round 20;step 19" + one).use(0), 2);
        Check.due("STEP 20 of 20", Check.of("round 20;step 20" + one).use(0), 3);
        Check.due("STEP 20 of 19", Check.of("round 19;step 20" + one).use(0), 4);
        Check.due("STEP 20 of 9", Check.of("round 9;step 20" + one).use(0), 5);
        Check.due("STEP 0", Check.of("step 0" + one).use(0), 3);
    }

    /** Whatever THE LAW says: no LINE counts for a PERMIT that is used. */
    static void useWithoutTheLaw() {
        CribLine x = Check.of("step 2;person girl age 3 permits 9", "calm;yes 7");
        Check.due("calm does not count", x.use(0), 5);
        Check.law(x, "yes 7");
        Check.due("a yes LINE neither", x.use(0), 7);
    }

    /** A PERMIT's yes comes round ROUND, too, and TURNS with it; to - 99 at least. */
    static void useRoundTheRing() {
        CribLine x = Check.of("round 2;step 1;person girl age 1 permits 9;person boy age 1 permits 9;governs 1 0");
        Check.due("1 to 0", x.use(0), 0);
        Check.due("TURNS", x.person(0, 1), -1);
        Check.due("0 to 1", x.use(0), 1);
        Check.due("TURNS", x.person(0, 1), -1);
        for (int i = 0; i < 200; i++) x.say(1, 0, true);
        Check.due("- 99", x.person(0, 1), -99);
        x.use(0);
        Check.due("- 99 at least", x.person(0, 1), -99);
    }

    /** "A PERMIT is used (1 less ..": to the last one; "IllegalStateException: there is none". */
    static void useToTheLast() {
        CribLine x = Check.of("person girl age 3 permits 2");
        Check.due("one", x.use(0), 4);
        Check.due("PERMITS", x.person(0, 7), 1);
        Check.due("the last one", x.use(0), 5);
        Check.due("PERMITS", x.person(0, 7), 0);
        Check.refused("none", Edge.CANNOT, () -> x.use(0));
        Check.due("AGE stays", x.person(0, 0), 5);
    }

    // ---- Promises 17, 18: governing, STERN

    /** "whether that changed". */
    static void governWhetherItChanged() {
        CribLine x = Check.of("person girl age 1;person boy age 2");
        Check.due("not, as it was not", x.govern(0, 1, false), false);
        Check.due("it does", x.govern(0, 1, true), true);
        Check.due("it does, as it did", x.govern(0, 1, true), false);
        Check.due("the other way is by itself", x.person(0, 8), 0);
        Check.due("not any more", x.govern(0, 1, false), true);
        Check.due("GOVERNED by none", x.person(1, 8), 0);
    }

    /** Bits of 0 and of 7: one is told, the others stay. */
    static void governEachByItself() {
        CribLine x = Check.of("person boy age 1;".repeat(7) + "person boy age 7");
        for (int i = 0; i < 7; i++) x.govern(i, 7, true);
        for (int j = 1; j < 8; j++) x.govern(0, j, true);
        Check.due("who governs 7", x.person(7, 8), 127);
        Check.due("whom 0 governs", x.person(0, 9), 254);
        x.govern(6, 7, false);
        x.govern(0, 7, false);
        Check.due("who governs 7", x.person(7, 8), 62);
        Check.due("whom 0 governs", x.person(0, 9), 126);
        x.govern(7, 0, true);
        Check.due("who governs 0", x.person(0, 8), 128);
    }

    /** "IllegalArgumentException: both are one". */
    static void governOneself() {
        CribLine x = two(1, 2, 90, 1);
        Check.refused("true", Edge.NONE_SUCH, () -> x.govern(0, 0, true));
        Check.refused("false", Edge.NONE_SUCH, () -> x.govern(1, 1, false));
        Check.refused("nobody", Edge.NOBODY, () -> x.govern(2, 2, true));
        Check.due("nobody governs itself", x.person(0, 8), 0b10);
    }

    /** "STERN is told: what it was"; 0 to 100. */
    static void sternFrom0To100() {
        CribLine x = two(1, 2, 90, 1);
        Check.due("at first", x.stern(0, 0), 50);
        Check.due("0", x.stern(0, 100), 0);
        Check.due("100", x.stern(0, 100), 100);
        for (int n : Edge.outside(0, 100)) Check.refused("STERN " + n, Edge.NONE_SUCH, () -> x.stern(0, n));
        Check.due("100 still", x.person(0, 6), 100);
        Check.refused("nobody ahead of a number that is none", Edge.NOBODY, () -> x.stern(2, 101));
    }

    // ---- THE LOG

    /** "the latest 60 SAYINGS": the 61st takes the oldest one's place. */
    static void sixtyRows() {
        CribLine x = two(0, 0, 90, 1);
        for (int i = 1; i <= 60; i++) {
            x.say(0, 1, true);
            Check.due("rows", x.count(11), i);
        }
        Check.due("the oldest", x.log(59, 4), 1);
        Check.due("none behind", x.log(60, 4), -1);
        x.say(0, 1, true);
        Check.due("rows", x.count(11), 60);
        Check.due("the latest", x.log(0, 4), 61);
        Check.due("the oldest", x.log(59, 4), 2);
        Check.due("none behind", x.log(60, 4), -1);
        for (int i = 0; i < 60; i++) x.say(0, 1, false);
        Check.due("all are new", x.log(59, 3), 0);
        Check.due("the latest", x.log(0, 4), 1);
    }

    /** "so many ago (0 the latest) .. NONE without": ahead of any, below 0, at the end. */
    static void rowsAgo() {
        CribLine x = two(7, 8, 90, 1);
        for (int what = 0; what < 5; what++) Check.due("ahead of any", x.log(0, what), -1);
        x.say(0, 1, false);
        for (int what = 0; what < 5; what++) {
            Check.due("there is 0", x.log(0, what) != -1, true);
            for (int ago : new int[] {-1, 1, 59, 60, 61, MIN, MAX}) Check.due("ago " + ago, x.log(ago, what), -1);
        }
    }

    /** "NoSuchElementException: another what", with a row and without. */
    static void rowsOfAnotherWhat() {
        CribLine x = two(7, 8, 90, 1);
        for (int what : new int[] {-1, 5, 6, MIN, MAX}) {
            Check.refused("what " + what, Edge.NO_WHAT, () -> x.log(0, what));
            Check.refused("ago -1, what " + what, Edge.NO_WHAT, () -> x.log(-1, what));
        }
        x.say(0, 1, true);
        for (int what : new int[] {-1, 5}) Check.refused("with a row, what " + what, Edge.NO_WHAT, () -> x.log(0, what));
    }

    private static void row(CribLine x, int... due) {
        for (int i = 0; i < due.length; i++) Check.due("log 0 " + i, x.log(0, i), due[i]);
    }

    /** "DAY, who said it, to whom, 0 no, 1 yes, AGE then": AGE behind the SAYING, at both ends of the ring. */
    static void rowsAtTheEnds() {
        CribLine x = Check.of("person boy age 89;" + "person boy age 1;".repeat(6) + "person boy age 0;governs 0 7;governs 7 0;day 999");
        x.say(0, 7, false);
        row(x, 999, 0, 7, 0, 89);
        x.say(7, 0, true);
        row(x, 999, 7, 0, 1, 0);
    }

    /** "who said it (of a PERMIT that one itself)". */
    static void rowOfAPermit() {
        CribLine x = Check.of("step 4;person boy age 89;person girl age 8 permits 1");
        x.use(1);
        row(x, 0, 1, 1, 1, 12);
        Check.due("rows", x.count(11), 1);
        Check.due("led to it", x.led(1, false), 1);
    }

    /** Only SAYINGS are rows. */
    static void noRowsOfOtherActs() {
        CribLine x = Check.of("person girl age 40 permits 2;person boy age 30;governs 0 1");
        x.bear(0, true);
        x.wed(0, 1);
        x.part(0);
        x.lend(0, 1);
        x.govern(1, 0, true);
        x.stern(0, 3);
        x.days(100);
        Check.due("rows", x.count(11), 0);
    }

    // ---- Promise 57

    /** "how many rows of THE LOG are of words to one; the DAY of the latest (none)". */
    static void led() {
        CribLine x = Check.of("day 7;person girl age 40 permits 2;person boy age 30;governs 0 1");
        Check.due("no row", x.led(1, false), 0);
        Check.due("no DAY", x.led(1, true), -1);
        x.say(0, 1, true);
        x.days(1);
        x.say(0, 1, false);
        Check.due("rows", x.led(1, false), 2);
        Check.due("the latest's DAY", x.led(1, true), 8);
        Check.due("who said them", x.led(0, false), 0);
        Check.due("none", x.led(0, true), -1);
        x.days(1);
        x.use(0);
        Check.due("to itself", x.led(0, true), 9);
        Check.due("the other one's stays", x.led(1, true), 8);
    }

    /** LED on DAY 0 is 0, not none. */
    static void ledOnDayZero() {
        CribLine x = two(1, 2, 90, 1);
        x.say(0, 1, true);
        Check.due("DAY 0", x.led(1, true), 0);
    }

    /** LED by 60 rows: the 61st takes the oldest away. */
    static void ledBySixtyRows() {
        CribLine x = two(40, 30, 90, 1);
        x.say(1, 0, true);
        for (int i = 0; i < 59; i++) x.say(0, 1, true);
        Check.due("its one row", x.led(0, false), 1);
        Check.due("59", x.led(1, false), 59);
        x.say(0, 1, true);
        Check.due("gone", x.led(0, false), 0);
        Check.due("none", x.led(0, true), -1);
        Check.due("60", x.led(1, false), 60);
        x.say(0, 1, true);
        Check.due("60 at most", x.led(1, false), 60);
    }

    public static void main(String[] args) throws ReflectiveOperationException {
        Edge.run(EdgeActTest.class);
    }
}
