/** Boundary cases of what words would make of one, and of who said what (promises 20 to 25, 29, 30). Each method is a test of one sentence. */
final class EdgeWordsTest {
    /** 1 governs 0 of that AGE; ROUND r, STEP s. */
    private static CribLine one(int age, int r, int s) {
        return Check.of("round " + r + ";step " + s + ";person boy age " + age + ";person girl age 1;governs 1 0");
    }

    // ---- Promise 20

    /** WOULD at both ends of the ring: 0 is not below 0, ROUND is ROUND at least. */
    static void wouldRoundTheRing() {
        Check.due("5 less 5", one(5, 90, 5).would(1, 0, false), 0);
        Check.due("4 less 5", one(4, 90, 5).would(1, 0, false), 89);
        Check.due("84 and 5", one(84, 90, 5).would(1, 0, true), 89);
        Check.due("85 and 5", one(85, 90, 5).would(1, 0, true), 0);
        Check.due("0 less 1 of 2", one(0, 2, 1).would(1, 0, false), 1);
        Check.due("1 and 1 of 2", one(1, 2, 1).would(1, 0, true), 0);
        Check.due("a word of no weight", one(89, 90, 0).would(1, 0, true), 89);
    }

    /** It is asked of two who do not govern each other, too, and nothing is said. */
    static void wouldOfWhoDoesNotGovern() {
        CribLine x = one(7, 90, 3);
        String state = Edge.state(x);
        Check.due("0 does not govern 1", x.would(0, 1, false), 88);
        Edge.alike("nothing is said", Edge.state(x), state);
    }

    /** "IllegalArgumentException: both are one"; nobody goes ahead of it. */
    static void wouldOfOne() {
        CribLine x = one(7, 90, 3);
        Check.refused("one", Edge.NONE_SUCH, () -> x.would(0, 0, true));
        Check.refused("nobody", Edge.NOBODY, () -> x.would(2, 2, true));
        Check.refused("nobody second", Edge.NOBODY, () -> x.would(0, 2, true));
    }

    // ---- Promises 21, 22: FEWEST, FIRST

    /** "how many (0, if it is so)"; FIRST: "NONE (also, if FEWEST is 0)". */
    static void fewestOfNone() {
        CribLine x = one(7, 90, 1);
        Check.due("FEWEST", x.fewest(0, 7), 0);
        Check.due("FIRST", x.first(0, 7), -1);
        Check.due("of who is FREE", x.fewest(1, 1), 0);
        Check.due("FIRST", x.first(1, 1), -1);
        CribLine y = one(0, 90, 0);
        Check.due("though a word of no weight leads there", y.fewest(0, 0), 0);
        Check.due("FIRST", y.first(0, 0), -1);
    }

    /** "none, if it cannot be": who is not GOVERNED, words of no weight, AGES that STEP leaves out. */
    static void fewestThatCannotBe() {
        CribLine x = one(7, 90, 1);
        Check.due("who is FREE", x.fewest(1, 2), -1);
        Check.due("FIRST", x.first(1, 2), -1);
        Check.due("STEP 0", one(7, 90, 0).fewest(0, 8), -1);
        CribLine y = one(7, 90, 2);
        Check.due("even AGES of an even ring", y.fewest(0, 8), -1);
        Check.due("FIRST", y.first(0, 8), -1);
        Check.due("odd ones", y.fewest(0, 9), 1);
        Check.due("of an odd ring all can be", one(7, 89, 2).fewest(0, 8), 44);
    }

    /** "IllegalArgumentException: the AGE is none": 0 to ROUND less 1 are. */
    static void agesOfARing() {
        CribLine x = one(7, 50, 1);
        Check.due("0", x.fewest(0, 0), 7);
        Check.due("49", x.fewest(0, 49), 8);
        Check.due("FIRST to 0", x.first(0, 0), 2);
        Check.due("FIRST to 49", x.first(0, 49), 2);
        for (int age : Edge.outside(0, 49)) {
            Check.refused("FEWEST to " + age, Edge.NONE_SUCH, () -> x.fewest(0, age));
            Check.refused("FIRST to " + age, Edge.NONE_SUCH, () -> x.first(0, age));
        }
        Check.refused("nobody goes ahead", Edge.NOBODY, () -> x.fewest(2, 50));
        Check.refused("nobody goes ahead", Edge.NOBODY, () -> x.first(-1, 50));
        Check.family(x, "round 99");
        Check.due("98 of 99", x.fewest(0, 98), 8);
        Check.refused("99", Edge.NONE_SUCH, () -> x.fewest(0, 99));
    }

    /** The farthest AGE of a ring: the half, both ways; more than 20. */
    static void fewestToTheHalf() {
        CribLine x = one(10, 90, 1);
        Check.due("45", x.fewest(0, 55), 45);
        Check.due("as far both ways: the no goes ahead", x.first(0, 55), 2);
        Check.due("44 by yes", x.fewest(0, 54), 44);
        Check.due("by yes", x.first(0, 54), 3);
        Check.due("44 by no", x.fewest(0, 56), 44);
        Check.due("by no", x.first(0, 56), 2);
        CribLine y = one(0, 99, 1);
        Check.due("49", y.fewest(0, 49), 49);
        Check.due("49 the other way", y.fewest(0, 50), 49);
    }

    /** A row of SAYINGS as long as the ring: by yes alone, as a no WEIGHS nothing. */
    static void fewestAllTheWay() {
        CribLine x = one(0, 99, 0);
        Check.law(x, "yes 1");
        Check.due("98 by yes alone", x.fewest(0, 98), 98);
        Check.due("a yes, though a no has the lesser number", x.first(0, 98), 3);
    }

    /** "of all such SAYINGS the one of the least number (2 times the one who says it, 1 more of a yes)": of 0 and of 7. */
    static void firstOfTheLeastNumber() {
        CribLine x = Check.of("person boy age 9;" + "person girl age 1;".repeat(6) + "person boy age 40;governs 0 7;governs 6 7;governs 7 0;governs 1 0");
        Check.due("a no of 0", x.first(7, 39), 0);
        Check.due("a yes of 0", x.first(7, 41), 1);
        Check.due("a no of 1", x.first(0, 8), 2);
        Check.due("a yes of 1", x.first(0, 10), 3);
        x.govern(0, 7, false);
        Check.due("a no of 6", x.first(7, 39), 12);
        x.govern(1, 0, false);
        Check.due("a no of 7", x.first(0, 8), 14);
        Check.due("a yes of 7", x.first(0, 10), 15);
    }

    /** FIRST of rows that begin unlike: the least of all that are as short. */
    static void firstOfSeveralRows() {
        // 2 puts 6 on, 3 takes 4 off: 2 more by either first
        CribLine x = Check.of("step 0;person boy age 50;person girl age 1;person girl age 2;person girl age 3;governs 2 0;governs 3 0",
                "yes 6 if who > 1 and who < 3;no 4 if who > 2");
        Check.due("two SAYINGS", x.fewest(0, 52), 2);
        Check.due("the yes of 2 goes ahead of the no of 3", x.first(0, 52), 5);
        Check.law(x, "yes 6 if who > 2;no 4 if who > 1 and who < 3");
        Check.due("the no of 2 goes ahead of the yes of 3", x.first(0, 52), 4);
    }

    /** "by AGE alone: DAY, its TURNS, all others as they are". */
    static void byAgeAlone() {
        CribLine x = one(1, 90, 1);
        Check.law(x, "calm if turns > 0 or day > 0");
        Check.due("over the ring TURNS stay", x.fewest(0, 87), 4);
        CribLine y = one(1, 90, 1);
        Check.law(y, "no 8 if crib;yes 8 if crib");
        Check.due("AGE counts on the way: 1, 10, 9, 8", y.fewest(0, 8), 3);
    }

    // ---- Promise 23: CAN

    /** "CAN of N (0 to 20): how many AGES one can have by N SAYINGS at most". */
    static void canOf0To20() {
        CribLine x = one(50, 99, 1);
        Check.due("0: as it is", x.can(0, 0), 1);
        Check.due("1", x.can(0, 1), 3);
        Check.due("19", x.can(0, 19), 39);
        Check.due("20", x.can(0, 20), 41);
        for (int n : Edge.outside(0, 20)) Check.refused("N " + n, Edge.NONE_SUCH, () -> x.can(0, n));
        Check.refused("nobody goes ahead", Edge.NOBODY, () -> x.can(2, 21));
    }

    /** ROUND AGES at most: round the ring no AGE counts twice. */
    static void canOfAllAges() {
        Check.due("40 of 40", one(5, 40, 1).can(0, 20), 40);
        Check.due("41 of 41", one(5, 41, 1).can(0, 20), 41);
        Check.due("41 of 42", one(5, 42, 1).can(0, 20), 41);
        Check.due("2 of 2", one(1, 2, 1).can(0, 1), 2);
        Check.due("5 of 10", one(5, 10, 2).can(0, 20), 5);
    }

    /** Who is not GOVERNED, and words of no weight: one AGE. */
    static void canOfOneAge() {
        Check.due("who is FREE", one(5, 90, 1).can(1, 20), 1);
        Check.due("STEP 0", one(5, 90, 0).can(0, 20), 1);
        Check.due("STEP of ROUND", one(5, 20, 20).can(0, 20), 1);
    }

    // ---- Promises 24, 25: HARSH, KIND

    /** "(of several the least; none)". */
    static void harshOfSeveral() {
        CribLine x = Check.of("person boy age 9;" + "person girl age 1;".repeat(6) + "person boy age 40;governs 3 0;governs 5 0;governs 7 0");
        Check.due("of like no", x.harsh(0), 3);
        Check.due("of like yes", x.kind(0), 3);
        Check.law(x, "no 1 if who > 4;yes 1 if who > 6");
        Check.due("5 as 7", x.harsh(0), 5);
        Check.due("7 alone", x.kind(0), 7);
        Check.due("none", x.harsh(7), -1);
        Check.due("none", x.kind(7), -1);
    }

    /** Who governs it may be 0, and may be 7: the first and the last are looked at. */
    static void harshOfTheFirstAndTheLast() {
        CribLine x = Check.of("person boy age 9;" + "person girl age 1;".repeat(6) + "person boy age 40;governs 0 3;governs 7 3");
        Check.due("of like no the least", x.harsh(3), 0);
        Check.due("of like yes the least", x.kind(3), 0);
        Check.law(x, "no 1 if who > 6;yes 1 if who < 1");
        Check.due("7", x.harsh(3), 7);
        Check.due("0", x.kind(3), 0);
        x.govern(7, 3, false);
        Check.due("0 alone", x.harsh(3), 0);
        x.govern(7, 3, true);
        x.govern(0, 3, false);
        Check.due("7 alone", x.kind(3), 7);
    }

    /** A no that WEIGHS 0 is one, too; what is left by ROUND counts, not the sum. */
    static void harshOfNoWeight() {
        CribLine x = Check.of("person boy age 9;person girl age 1;person girl age 2;governs 1 0;governs 2 0", "calm");
        Check.due("calm", x.harsh(0), 1);
        Check.due("calm", x.kind(0), 1);
        Check.law(x, "no 60 if who > 1;no 29 if who > 1;yes 60 if who > 1;yes 29 if who > 1");
        Check.due("90 is 0: 1 WEIGHS more", x.harsh(0), 1);
        Check.due("90 is 0: 1 WEIGHS more", x.kind(0), 1);
        Check.law(x, "no 60 if who > 1;no 28 if who > 1;yes 1 if who < 2");
        Check.due("89 is the most", x.harsh(0), 2);
        Check.due("1 by yes", x.kind(0), 1);
    }

    // ---- Promises 29, 30: SAID, ASK

    private static int said(CribLine x, int who, int... seen) {
        Check.tape(x, seen);
        return x.said(who);
    }

    private static int ask(CribLine x, int who, int... seen) {
        Check.tape(x, seen);
        return x.ask(who);
    }

    private static void refused(String what, CribLine x, int who, int... seen) {
        Check.refused("SAID, " + what, Edge.NONE_SUCH, () -> said(x, who, seen));
        Check.refused("ASK, " + what, Edge.NONE_SUCH, () -> ask(x, who, seen));
    }

    private static int[] pairs(int bytes) {
        int[] seen = new int[bytes];
        for (int i = 0; i < bytes; i++) seen[i] = i % 2 == 0 ? 50 : 49;
        return seen;
    }

    /** "(none may be told)": all SAYINGS of those who govern it. */
    static void noneTold() {
        CribLine x = Check.of("person boy age 9;" + "person girl age 1;".repeat(6) + "person boy age 40;governs 0 7;governs 6 7;governs 7 0");
        Check.due("of 0 and 6", said(x, 7), 0b11000000000011);
        Check.due("of 7", said(x, 0), 0b1100000000000000);
        Check.due("nobody governs it", said(x, 1), 0);
    }

    /** "at most 40 bytes": 40 are, 42 are not, 39 and 41 are odd. */
    static void fortyBytes() {
        CribLine x = one(9, 90, 1);
        Check.due("40", said(x, 0, pairs(40)), 0b0100);
        Check.due("38", said(x, 0, pairs(38)), 0b0100);
        Check.due("ASK by 40", ask(x, 0, pairs(40)), -1);
        refused("42", x, 0, pairs(42));
        refused("41", x, 0, pairs(41));
        refused("39", x, 0, pairs(39));
        refused("400", x, 0, pairs(400));
    }

    /** The last of 20 sightings counts. */
    static void theLastOfTwenty() {
        CribLine x = one(9, 90, 1);
        int[] seen = pairs(40);
        seen[39] = 51;
        Check.due("no word fits all", said(x, 0, seen), 0);
    }

    /** "of each two bytes": an odd one is not that. */
    static void oddBytes() {
        CribLine x = one(9, 90, 1);
        refused("1", x, 0, 50);
        refused("3", x, 0, 50, 49, 50);
    }

    /** "AGE ahead, AGE behind": 0 to ROUND less 1. */
    static void sightingsAreAges() {
        CribLine x = one(9, 90, 1);
        Check.due("0 to 89", said(x, 0, 0, 89), 0b0100);
        Check.due("89 to 0", said(x, 0, 89, 0), 0b1000);
        refused("90 ahead", x, 0, 90, 89);
        refused("90 behind", x, 0, 89, 90);
        refused("255", x, 0, 255, 255);
        refused("90 at the end of 40", x, 0, java.util.Arrays.copyOf(new int[] {1, 90}, 40));
        refused("90, though nobody governs it", x, 1, 90, 89);
        Check.family(x, "round 99");
        Check.due("98 of 99", said(x, 0, 0, 98), 0b0100);
        refused("99 of 99", x, 0, 0, 99);
    }

    /** "the same one always": what fits one time and not another does not fit. */
    static void theSameOneAlways() {
        CribLine x = Check.of("person boy age 9;person girl age 1;person girl age 2;governs 1 0;governs 2 0", "no 4 if who > 1 and crib");
        Check.due("once", said(x, 0, 9, 8), 0b010100);
        Check.due("1", said(x, 0, 9, 8, 4, 3), 0b000100);
        Check.due("2", said(x, 0, 9, 8, 4, 89), 0b010000);
        Check.due("none", said(x, 0, 9, 8, 4, 3, 4, 89), 0);
        Check.due("told twice", said(x, 0, 9, 8, 9, 8), 0b010100);
    }

    /** "(each by all else as now, TURNS too)". */
    static void saidByAllElseAsNow() {
        CribLine x = one(0, 90, 1);
        Check.law(x, "no 4 if turns > 0");
        Check.due("TURNS 0", said(x, 0, 50, 49), 0b0100);
        x.say(1, 0, false);
        Check.due("TURNS 1", said(x, 0, 50, 49), 0);
        Check.due("TURNS 1", said(x, 0, 50, 45), 0b0100);
        Check.due("though it turns on the way: TURNS as now", said(x, 0, 2, 87, 50, 45), 0b0100);
    }

    /** SAID of a word of no weight: no and yes alike. */
    static void saidOfNoWeight() {
        CribLine x = one(9, 90, 0);
        Check.due("both", said(x, 0, 89, 89), 0b1100);
        Check.due("neither", said(x, 0, 89, 88), 0);
    }

    /** "none with fewer than two": 0 and 1 are, 2 are not. */
    static void askOfFewerThanTwo() {
        CribLine x = one(9, 90, 1);
        Check.due("none fits", ask(x, 0, 50, 50), -1);
        Check.due("one fits", ask(x, 0, 50, 49), -1);
        Check.due("two fit", ask(x, 0), 0);
        Check.due("nobody governs it", ask(x, 1), -1);
    }

    /** "the AGE (0 to ROUND less 1)": the least and the last may be the best. */
    static void askAtBothEnds() {
        CribLine x = Check.of("person boy age 9;person girl age 1;person girl age 2;governs 1 0;governs 2 0", "no 4 if who > 1 and age > 88");
        Check.due("parted at 89 alone", ask(x, 0, 50, 49), 89);
        Check.law(x, "no 4 if who > 1 and age < 1");
        Check.due("parted at 0 alone", ask(x, 0, 50, 49), 0);
        Check.law(x, "no 4 if who > 1 and (age > 88 or age > 20 and age < 23)");
        Check.due("of several the least", ask(x, 0, 50, 49), 21);
    }

    /** ASK where nothing parts: of several the least is 0. */
    static void askWhereNothingParts() {
        CribLine x = Check.of("person boy age 9;person girl age 1;person girl age 2;governs 1 0;governs 2 0");
        Check.due("two no", ask(x, 0, 50, 49), 0);
        Check.due("all four: two parts of two", ask(x, 0), 0);
        CribLine y = one(1, 2, 1);
        Check.due("a ring of 2: no and yes are alike", ask(y, 0), 0);
        Check.due("both fit", said(y, 0, 0, 1), 0b1100);
    }

    /** ASK among SAYINGS of 0 and of 7: their no and their yes are parted, too. */
    static void askOfTheFirstAndTheLast() {
        CribLine x = Check.of("person girl age 9;" + "person boy age 1;".repeat(6) + "person girl age 2;governs 0 3;governs 7 3",
                "no 4 if who < 1 and age > 30;yes 4 if who > 6 and age > 40");
        Check.due("of a no the one by 0 is parted at 31", ask(x, 3, 20, 19), 31);
        Check.due("of a yes the one by 7 is parted at 41", ask(x, 3, 20, 21), 41);
        Check.due("all four fit", said(x, 3), 0b1100000000000011);
    }

    /** ASK by "the greatest part .. the least": four parts of one go ahead of parts of two. */
    static void askByTheGreatestPart() {
        CribLine x = Check.of("step 1;person boy age 9;person girl age 1;person girl age 2;governs 1 0;governs 2 0",
                "no 1 if who > 1 and age > 30;yes 1 if who > 1 and age > 60");
        Check.due("at 31 the no are parted, at 61 all", ask(x, 0), 61);
    }

    public static void main(String[] args) throws ReflectiveOperationException {
        Edge.run(EdgeWordsTest.class);
    }
}
