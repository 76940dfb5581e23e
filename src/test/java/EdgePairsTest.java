/** Boundary cases of MATCH, MATE, STABLE and RUNS (promises 31 to 34). Each method is a test of one sentence. */
final class EdgePairsTest {
    private static void match(String what, CribLine x, int many, int gaps, int... mates) {
        Check.due(what + ", how many", x.match(false), many);
        Check.due(what + ", GAPS together", x.match(true), gaps);
        for (int i = 0; i < mates.length; i++) Check.due(what + ", MATE of " + i, x.mate(i), mates[i]);
    }

    private static void stable(String what, CribLine x, int... due) {
        for (int i = 0; i < due.length; i++) Check.due(what + ", STABLE of " + i, x.stable(i), due[i]);
    }

    // ---- Promises 31, 32

    /** No boys, no girls, one alone: none are put to any. */
    static void noBoysOrNoGirls() {
        match("of nobody", new CribLine(), 0, 0);
        match("one", Check.of("person boy age 1"), 0, 0, -1);
        match("boys", Check.of("person boy age 1;person boy age 2"), 0, 0, -1, -1);
        match("girls", Check.of("person girl age 1;person girl age 2"), 0, 0, -1, -1);
        match("two", Check.of("person girl age 1;person boy age 2"), 1, 1, 1, 0);
    }

    /** "boys without a SPOUSE are put to girls without one": neither of a pair is put. */
    static void noneWithASpouse() {
        CribLine x = Check.of("person girl age 1;person boy age 2;person girl age 3;person boy age 4;wed 0 1");
        match("a pair", x, 1, 1, -1, -1, 3, 2);
        x.wed(2, 3);
        match("two pairs", x, 0, 0, -1, -1, -1, -1);
        x.part(0);
        match("behind a parting", x, 1, 1, 1, 0, -1, -1);
    }

    /** "not PARENT and child": either way; children of one PARENT may. */
    static void notParentAndChild() {
        match("a girl's boy", Check.of("person girl age 1;person boy age 2 of 0"), 0, 0, -1, -1);
        match("a boy's girl", Check.of("person boy age 1;person girl age 2 of 0"), 0, 0, -1, -1);
        match("children of one", Check.of("person girl age 1;person boy age 2 of 0;person girl age 9 of 0"), 1, 7, -1, 2, 1);
        match("PARENT'S PARENT", Check.of("person girl age 1;person girl age 2 of 0;person boy age 3 of 1"), 1, 2, 2, -1, 0);
    }

    /** "each to another one": more boys than girls, more girls than boys. */
    static void eachToAnother() {
        match("seven boys", Check.of("person boy age 9;".repeat(7) + "person girl age 9"), 1, 0, 7, -1, -1, -1, -1, -1, -1, 0);
        match("seven girls", Check.of("person girl age 9;".repeat(7) + "person boy age 9"), 1, 0, 7, -1, -1, -1, -1, -1, -1, 0);
        match("four and four", Check.of("person boy age 9;".repeat(4) + "person girl age 9;".repeat(3) + "person girl age 9"), 4, 0, 4, 5, 6, 7, 0, 1, 2, 3);
    }

    /** "as many as can be" goes ahead of GAPS. */
    static void asManyAsCanBe() {
        // 1 may not be put to 0, its PARENT: 2, who is nearer to 3, must leave her
        match("two of 45 and 44", Check.of("person girl age 0;person boy age 1 of 0;person boy age 45;person girl age 45"), 2, 89, 2, 3, 0, 1);
    }

    /** "of such ways the one of the least GAPS together": GAPS round the ring. */
    static void leastGaps() {
        match("round the ring", Check.of("person boy age 0;person boy age 44;person girl age 45;person girl age 89"), 2, 2, 3, 2, 1, 0);
    }

    /** "of several the first (boy by boy, the least girl that can be ..)". */
    static void firstOfSeveral() {
        match("the least girl", Check.of("person girl age 8;person girl age 12;person boy age 10"), 1, 2, 2, -1, 0);
        match("boy by boy", Check.of("person boy age 10;person boy age 10;person girl age 5;person girl age 15"), 2, 10, 2, 3, 0, 1);
        match("the least girl goes ahead, though she is farther by herself",
                Check.of("person boy age 10;person boy age 12;person girl age 20;person girl age 16"), 2, 14, 2, 3, 0, 1);
    }

    /** "(boy by boy ..": not girl by girl, which would put 1 to 2 and leave 3 alone. */
    static void boyByBoyNotGirlByGirl() {
        match("4 together either way", Check.of("person boy age 9;person boy age 11;person girl age 14;person girl age 6;person girl age 10"),
                2, 4, 3, 4, -1, 0, 1);
    }

    /** ".., none behind all girls)": a boy with one goes ahead of him without. */
    static void noneBehindAllGirls() {
        match("the first boy has her", Check.of("person boy age 8;person boy age 12;person girl age 10"), 1, 2, 2, -1, 0);
        match("the nearer boy has her", Check.of("person boy age 7;person boy age 12;person girl age 10"), 1, 2, -1, 2, 1);
    }

    /** MATE of a girl is the boy; "none". */
    static void mateOfAGirl() {
        CribLine x = Check.of("person girl age 1;person girl age 50;person boy age 50");
        Check.due("of a girl", x.mate(1), 2);
        Check.due("of a boy", x.mate(2), 1);
        Check.due("none", x.mate(0), -1);
    }

    /** "IndexOutOfBoundsException: there is no such PERSON", of MATE and of STABLE. */
    static void mateOfNobody() {
        CribLine x = Check.of("person girl age 1;person boy age 50");
        for (int person : Edge.outside(0, 1)) {
            Check.refused("MATE of " + person, Edge.NOBODY, () -> x.mate(person));
            Check.refused("STABLE of " + person, Edge.NOBODY, () -> x.stable(person));
        }
    }

    /** MATCH changes nothing. */
    static void matchChangesNothing() {
        CribLine x = Check.of("person girl age 1;person boy age 50");
        String state = Edge.state(x);
        x.match(true);
        x.mate(0);
        x.stable(0);
        x.runs();
        Edge.alike("behind all", Edge.state(x), state);
    }

    // ---- Promise 33

    /** No boys, no girls, none without a SPOUSE: none. */
    static void stableOfNone() {
        stable("one", Check.of("person boy age 1"), -1);
        stable("boys", Check.of("person boy age 1;person boy age 2"), -1, -1);
        stable("girls", Check.of("person girl age 1;person girl age 2"), -1, -1);
        stable("wed", Check.of("person girl age 1;person boy age 2;wed 0 1"), -1, -1);
        stable("a SPOUSE elsewhere", Check.of("person girl age 1;person boy age 2;person boy age 1;wed 0 1"), -1, -1, -1);
        stable("PARENT and child", Check.of("person girl age 1;person boy age 2 of 0"), -1, -1);
        stable("child and PARENT", Check.of("person boy age 1;person girl age 2 of 0"), -1, -1);
    }

    /** "each such boy asks .. the one of the least GAP first (of several the least)". */
    static void boysAskTheNearest() {
        stable("the nearest", Check.of("person girl age 10;person girl age 13;person boy age 12"), -1, 2, 1);
        stable("of several the least", Check.of("person girl age 10;person girl age 14;person boy age 12"), 2, -1, 0);
        stable("round the ring", Check.of("person girl age 10;person girl age 89;person boy age 2"), -1, 2, 1);
    }

    /** "a girl keeps of those who asked the one of the least GAP (of several the least)": whoever asked first. */
    static void girlsKeepTheNearest() {
        stable("the nearest", Check.of("person boy age 10;person boy age 13;person girl age 12"), -1, 2, 1);
        stable("of several the least", Check.of("person boy age 10;person boy age 14;person girl age 12"), 2, -1, 0);
        stable("the least, though he asks her later", Check.of("person boy age 20;person boy age 28;person girl age 24;person girl age 17;person boy age 16"), 2, -1, 0, 4, 3);
    }

    /** "and refuses others, who go on": to the end of all girls. */
    static void refusedGoOn() {
        // all boys are of one AGE: the lesser number is kept, the next one goes on
        stable("four and four", Check.of("person boy age 10;".repeat(4) + "person girl age 11;person girl age 12;person girl age 13;person girl age 14"),
                4, 5, 6, 7, 0, 1, 2, 3);
        stable("seven and one", Check.of("person boy age 10;".repeat(7) + "person girl age 11"), 7, -1, -1, -1, -1, -1, -1, 0);
        stable("one and seven", Check.of("person girl age 11;".repeat(7) + "person boy age 10"), 7, -1, -1, -1, -1, -1, -1, 0);
    }

    /** A girl leaves the one whom she kept: he goes on behind her. */
    static void keptIsLeft() {
        // 0 asks 3 first; 1 comes, who is nearer to her; 0 goes on to 2
        stable("left", Check.of("person boy age 10;person boy age 14;person girl age 50;person girl age 13"), 2, 3, 0, 1);
        // 1 asks 2 first, who leaves him; 0, his PARENT, he may not ask
        stable("and is alone", Check.of("person girl age 10;person boy age 10 of 0;person girl age 40;person boy age 30"), -1, -1, 3, 2);
    }

    // ---- Promise 34

    /** "for each of whom the GAP to the other one is less than that to its SPOUSE": as much is not less, of either. */
    static void runsOfLessGap() {
        CribLine x = Check.of("person boy age 30;person girl age 20;person boy age 50;person girl age 40;wed 0 1;wed 2 3");
        Check.due("as much of both", x.runs(), 0);
        CribLine y = Check.of("person boy age 30;person girl age 20;person boy age 51;person girl age 40;wed 0 1;wed 2 3");
        Check.due("less for her, as much for him", y.runs(), 0);
        CribLine z = Check.of("person boy age 30;person girl age 19;person boy age 51;person girl age 40;wed 0 1;wed 2 3");
        Check.due("less for both", z.runs(), 1);
    }

    /** "(whoever has none would rather have any)": but the other one must, too. */
    static void runsOfWhoHasNone() {
        CribLine x = Check.of("person boy age 30;person girl age 20;person boy age 9;wed 0 1");
        Check.due("10 is not less than 11", Check.of("person boy age 30;person girl age 20;person boy age 10;wed 0 1").runs(), 0);
        Check.due("11 is not less than 10", x.runs(), 0);
        Check.due("9 is less than 10", Check.of("person boy age 30;person girl age 20;person boy age 11;wed 0 1").runs(), 1);
        Check.due("neither has any, at the farthest", Check.of("person boy age 0;person girl age 45").runs(), 1);
    }

    /** "not PARENT and child, not each other's SPOUSE". */
    static void runsOfNoKin() {
        Check.due("PARENT and child", Check.of("person boy age 0;person girl age 0 of 0").runs(), 0);
        Check.due("child and PARENT", Check.of("person girl age 0;person boy age 0 of 0").runs(), 0);
        Check.due("each other's SPOUSE", Check.of("person girl age 0;person boy age 40;wed 0 1").runs(), 0);
    }

    /** A girl that is 0, a boy that is 7, and the other way round. */
    static void runsOfTheFirstAndTheLast() {
        Check.due("girl 0, boy 7", Check.of("person girl age 1" + ";person girl age 9 of 0".repeat(6) + ";person boy age 2;wed 1 7").runs(), 1);
        Check.due("boy 0, girl 7", Check.of("person boy age 1" + ";person boy age 9 of 0".repeat(6) + ";person girl age 2;wed 1 7").runs(), 1);
    }

    /** "how many": pairs of all, each once. */
    static void runsOfAll() {
        Check.due("four and four", Check.of("person boy age 9;person girl age 8;".repeat(3) + "person boy age 9;person girl age 8").runs(), 16);
        Check.due("boys alone", Check.of("person boy age 9;".repeat(7) + "person boy age 9").runs(), 0);
    }

    public static void main(String[] args) throws ReflectiveOperationException {
        Edge.run(EdgePairsTest.class);
    }
}
