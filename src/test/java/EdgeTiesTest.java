/** Boundary cases of debts, choices, branches, governors and AGES of all (promises 10, 35 to 39, 41 to 46, 48 to 53). Each method is a test of one sentence. */
final class EdgeTiesTest {
    private static CribLine boys(int... ages) {
        StringBuilder text = new StringBuilder();
        for (int age : ages) text.append(text.length() > 0 ? ";" : "").append("person boy age ").append(age).append(" permits 5");
        return Check.of(text.toString());
    }

    private static CribLine eight() {
        return boys(1, 1, 1, 1, 1, 1, 1, 1);
    }

    // ---- Promise 10

    /** "IllegalArgumentException: both are one"; nobody goes ahead of it. */
    static void gapOfOne() {
        CribLine x = boys(1, 2);
        Check.refused("one", Edge.NONE_SUCH, () -> x.gap(1, 1));
        Check.refused("nobody", Edge.NOBODY, () -> x.gap(2, 2));
        Check.refused("nobody second", Edge.NOBODY, () -> x.gap(0, -1));
    }

    // ---- Promises 35, 36

    /** "OWES .. (below 0: 0)": nothing lent, lent one way, as much both ways. */
    static void owesBelow0() {
        CribLine x = boys(1, 2);
        Check.due("nothing lent", x.owes(0, 1), 0);
        x.lend(0, 1);
        x.lend(0, 1);
        Check.due("1 owes 0", x.owes(1, 0), 2);
        Check.due("0 does not owe 1", x.owes(0, 1), 0);
        x.lend(1, 0);
        Check.due("the rest", x.owes(1, 0), 1);
        x.lend(1, 0);
        Check.due("as much", x.owes(1, 0), 0);
        Check.due("as much", x.owes(0, 1), 0);
        x.lend(1, 0);
        Check.due("the other way", x.owes(0, 1), 1);
    }

    /** OWES of 9 at most. */
    static void owesNine() {
        CribLine x = Check.of("person boy age 1 permits 9;person boy age 2");
        for (int i = 0; i < 9; i++) x.lend(0, 1);
        Check.due("9", x.owes(1, 0), 9);
        Check.due("NET", x.net(), 9);
    }

    /** "both are one"; nobody goes ahead of it. */
    static void owesOfOne() {
        CribLine x = boys(1, 2);
        Check.refused("one", Edge.NONE_SUCH, () -> x.owes(0, 0));
        Check.refused("nobody", Edge.NOBODY, () -> x.owes(2, 2));
        Check.refused("nobody second", Edge.NOBODY, () -> x.owes(0, 2));
    }

    /** "NET: of each PERSON how many it LENT to all less how many it was LENT by all (below 0: 0)". */
    static void netOfEach() {
        CribLine x = boys(1, 2, 3);
        Check.due("nothing lent", x.net(), 0);
        x.lend(0, 1);
        Check.due("one", x.net(), 1);
        x.lend(1, 2);
        Check.due("1 lent as many as it was lent", x.net(), 1);
        x.lend(2, 0);
        Check.due("a ring nets to nothing", x.net(), 0);
        x.lend(0, 1);
        x.lend(0, 2);
        Check.due("0 lent 2 more", x.net(), 2);
    }

    // ---- Promise 37

    /** "whether from one to somebody to whom it LENT any one can come back to it": of two, of three, of eight. */
    static void ringsOfAnyLength() {
        CribLine x = eight();
        for (int length = 2; length <= 8; length++) {
            x.image();
            for (int i = 0; i + 1 < length; i++) x.lend(i, i + 1);
            Check.due("not closed, of " + length, x.ring(0), false);
            x.lend(length - 1, 0);
            for (int i = 0; i < 8; i++) Check.due("closed, of " + length + ", RING of " + i, x.ring(i), i < length);
            x.back();
        }
    }

    /** Who only leads into a ring, or is led to from one, is not in it. */
    static void besideARing() {
        CribLine x = boys(1, 2, 3, 4);
        x.lend(0, 1);
        x.lend(1, 2);
        x.lend(2, 1);
        x.lend(2, 3);
        Check.due("leads into it", x.ring(0), false);
        Check.due("in it", x.ring(1), true);
        Check.due("in it", x.ring(2), true);
        Check.due("led to from it", x.ring(3), false);
        Check.refused("nobody", Edge.NOBODY, () -> x.ring(4));
        Check.refused("nobody", Edge.NOBODY, () -> x.ring(-1));
    }

    /** LENT counts, not PERMITS: a PERMIT that was used leaves the ring. */
    static void ringOfUsedPermits() {
        CribLine x = Check.of("person boy age 1 permits 1;person boy age 2 permits 1");
        x.lend(0, 1);
        x.lend(1, 0);
        x.use(0);
        x.use(1);
        Check.due("RING", x.ring(0), true);
    }

    // ---- Promise 38

    /** "RICH: who has the most PERMITS (of several the least; none)". */
    static void richOfSeveral() {
        Check.due("none", new CribLine().rich(), -1);
        Check.due("the most", Check.of("person boy age 1 permits 8;person boy age 2 permits 9;person boy age 3 permits 8").rich(), 1);
        Check.due("of several the least", Check.of("person boy age 1 permits 8;person boy age 2 permits 9;person boy age 3 permits 9").rich(), 1);
        Check.due("of several with 0", Check.of("person boy age 1;person boy age 2").rich(), 0);
        Check.due("the last", Check.of("person boy age 1;".repeat(7) + "person boy age 2 permits 1").rich(), 7);
    }

    // ---- Promise 39: RESTS

    private static int rests(int stern, String law) {
        CribLine x = Check.of("step 0;person girl age 40 stern " + stern + ";person boy age 20;governs 0 1", law);
        return x.rests(0, 1);
    }

    /** What is due by what each would have, worked out without the class. */
    private static int restsByAll(int stern, int no, int yes) {
        int[][] one = {{stern / 10, 0}, {-1, 1}};
        int[][] other = {{-no, 0}, {yes, 0}};
        int bits = 0;
        for (int c = 0; c < 4; c++) {
            int a = c / 2, b = c % 2;
            if (one[1 - a][b] <= one[a][b] && other[a][1 - b] <= other[a][b]) bits |= 1 << c;
        }
        return bits;
    }

    /** "neither would have more by the other one of its own": as much is not more; a no and a yes of 0 and more. */
    static void restsOfWeights() {
        Check.due("both WEIGH", rests(50, "no 1;yes 1"), 0);
        Check.due("a no WEIGHS 0", rests(50, "yes 1"), 0b0001);
        Check.due("a yes WEIGHS 0", rests(50, "no 1"), 0b1000);
        Check.due("neither WEIGHS", rests(50, ""), 0b1001);
    }

    /** "STERN by 10, rounded down": from 0 to 100. */
    static void restsOfEachStern() {
        for (int stern : new int[] {0, 9, 10, 19, 99, 100}) {
            for (int no = 0; no < 2; no++) {
                for (int yes = 0; yes < 2; yes++) {
                    Check.due("STERN " + stern + ", no " + no + ", yes " + yes, rests(stern, "no " + no + ";yes " + yes), restsByAll(stern, no, yes));
                }
            }
        }
    }

    /** RESTS by what a word WEIGHS by ROUND: STEP of ROUND is 0. */
    static void restsByRound() {
        CribLine x = Check.of("round 20;step 20;person girl age 1;person boy age 2;governs 0 1");
        Check.due("both 0", x.rests(0, 1), 0b1001);
    }

    /** "both are one" goes ahead of "the first one does not govern the other one", nobody of both. */
    static void restsExceptions() {
        CribLine x = Check.of("person girl age 1;person boy age 2;governs 0 1");
        Check.refused("one", Edge.NONE_SUCH, () -> x.rests(0, 0));
        Check.refused("the other way", Edge.CANNOT, () -> x.rests(1, 0));
        Check.refused("nobody", Edge.NOBODY, () -> x.rests(2, 2));
        Check.refused("nobody second", Edge.NOBODY, () -> x.rests(0, 2));
    }

    // ---- Promises 41, 42

    /** "BRANCH of one: itself, its children and theirs": itself alone, of 0 and of 7. */
    static void branchOfOneAlone() {
        CribLine x = eight();
        Check.due("of 0", x.branch(0), 1);
        Check.due("of 7", x.branch(7), 128);
        Check.refused("nobody", Edge.NOBODY, () -> x.branch(8));
        Check.refused("nobody", Edge.NOBODY, () -> x.branch(-1));
    }

    /** BRANCH of all eight: children of one, and one below another. */
    static void branchOfEight() {
        CribLine x = Check.of("person boy age 1" + ";person boy age 2 of 0".repeat(7));
        Check.due("seven children", x.branch(0), 255);
        Check.due("a child", x.branch(3), 8);
        CribLine y = Check.of("person boy age 1;person boy age 1 of 0;person boy age 1 of 1;person boy age 1 of 0;person boy age 1 of 3");
        Check.due("children's children", y.branch(0), 31);
        Check.due("not its PARENT", y.branch(1), 0b110);
        Check.due("nor the other child's", y.branch(3), 0b11000);
    }

    /** "SENIOR: of those without a PARENT .. the least (of several the least; none)". */
    static void seniorOfSeveral() {
        Check.due("none", new CribLine().senior(), -1);
        Check.due("one", boys(80).senior(), 0);
        Check.due("the least", boys(80, 79, 79).senior(), 1);
        Check.due("who has a PARENT is none", Check.of("person boy age 9;person boy age 0 of 0;person boy age 8").senior(), 2);
        Check.due("AGES of the whole BRANCH", Check.of("person boy age 1;person boy age 9 of 0;person boy age 9;person boy age 11").senior(), 2);
        Check.due("as much: the lesser number", Check.of("person boy age 1;person boy age 8 of 0;person boy age 9").senior(), 0);
        Check.due("AGES of 0", boys(0, 0).senior(), 0);
    }

    // ---- Promise 43

    /** "KIN of two: how many steps by PARENTS and children the one is from the other one; none". */
    static void kin() {
        CribLine x = Check.of("person boy age 1;person boy age 1 of 0;person boy age 1 of 1;person boy age 1 of 2;"
                + "person boy age 1 of 0;person boy age 1 of 4;person boy age 1;person boy age 1 of 6");
        int[][] due = {{0, 1, 1}, {1, 0, 1}, {0, 2, 2}, {0, 3, 3}, {3, 0, 3}, {1, 4, 2}, {2, 5, 4}, {3, 5, 5}, {5, 3, 5}, {1, 5, 3}, {6, 7, 1}, {0, 6, -1}, {7, 3, -1}, {3, 7, -1}};
        for (int[] d : due) Check.due("KIN of " + d[0] + " and " + d[1], x.kin(d[0], d[1]), d[2]);
        Check.refused("one", Edge.NONE_SUCH, () -> x.kin(3, 3));
        Check.refused("nobody", Edge.NOBODY, () -> x.kin(8, 8));
        Check.refused("nobody second", Edge.NOBODY, () -> x.kin(0, -1));
    }

    /** KIN of 7 steps: eight one below another; a SPOUSE is no step. */
    static void kinOfSevenSteps() {
        StringBuilder text = new StringBuilder("person girl age 1");
        for (int i = 1; i < 8; i++) text.append(";person girl age 1 of ").append(i - 1);
        CribLine x = Check.of(text.toString());
        Check.due("down", x.kin(0, 7), 7);
        Check.due("up", x.kin(7, 0), 7);
        CribLine y = Check.of("person girl age 1;person boy age 1;wed 0 1");
        Check.due("SPOUSES", y.kin(0, 1), -1);
    }

    // ---- Promise 44

    /** "COUSINS of one: those who have the same PARENT'S PARENT, but not the same PARENT". */
    static void cousins() {
        CribLine x = Check.of("person boy age 1;person boy age 1 of 0;person boy age 1 of 0;person boy age 1 of 1;person boy age 1 of 1;"
                + "person boy age 1 of 2;person boy age 1 of 3;person boy age 1");
        Check.due("of 3", x.cousins(3), 0b00100000);
        Check.due("of 5", x.cousins(5), 0b00011000);
        Check.due("not itself, not of the same PARENT", x.cousins(4), 0b00100000);
        Check.due("of no like PARENT'S PARENT", x.cousins(6), 0);
        Check.due("without a PARENT'S PARENT", x.cousins(1), 0);
        Check.due("without a PARENT", x.cousins(0), 0);
        Check.due("nor are those without alike", x.cousins(7), 0);
        Check.refused("nobody", Edge.NOBODY, () -> x.cousins(8));
        Check.refused("nobody", Edge.NOBODY, () -> x.cousins(-1));
    }

    // ---- Promises 45, 46

    /** "(itself, too, if one comes to it)": of two, of eight; not otherwise. */
    static void underItself() {
        CribLine x = eight();
        Check.due("nobody", x.under(0), 0);
        for (int i = 0; i < 7; i++) x.govern(i, i + 1, true);
        Check.due("all below", x.under(0), 254);
        Check.due("the last but one", x.under(6), 128);
        Check.due("the last", x.under(7), 0);
        x.govern(7, 0, true);
        for (int i = 0; i < 8; i++) Check.due("round, of " + i, x.under(i), 255);
        Check.refused("nobody", Edge.NOBODY, () -> x.under(8));
        Check.refused("nobody", Edge.NOBODY, () -> x.under(-1));
    }

    /** The same from the last to the first, where numbers go down. */
    static void underDownTheNumbers() {
        CribLine x = eight();
        for (int i = 7; i > 0; i--) x.govern(i, i - 1, true);
        Check.due("all", x.under(7), 127);
        Check.due("the first", x.under(0), 0);
        x.govern(0, 1, true);
        Check.due("itself, too", x.under(0), 3);
    }

    /** "FREE: those whom nobody governs": all, some, none. */
    static void free() {
        CribLine x = eight();
        Check.due("all", x.free(), 255);
        x.govern(0, 7, true);
        Check.due("not 7", x.free(), 127);
        for (int i = 0; i < 7; i++) x.govern(7, i, true);
        Check.due("none", x.free(), 0);
        x.govern(7, 0, false);
        Check.due("0", x.free(), 1);
    }

    // ---- Promises 48 to 53

    /** "TWINS: pairs of PEOPLE of like AGE". */
    static void twins() {
        Check.due("one", boys(7).twins(), 0);
        Check.due("two", boys(7, 7).twins(), 1);
        Check.due("0 and 89 are not alike", boys(0, 89).twins(), 0);
        Check.due("eight", eight().twins(), 28);
        Check.due("three and two", boys(7, 8, 7, 8, 7).twins(), 4);
    }

    /** "MEAN: AGES of all by how many, rounded down (0 without)". */
    static void mean() {
        Check.due("without", new CribLine().mean(), 0);
        Check.due("of one", boys(7).mean(), 7);
        Check.due("7.5", boys(7, 8).mean(), 7);
        Check.due("7.67", boys(7, 8, 8).mean(), 7);
        Check.due("0.88", boys(0, 1, 1, 1, 1, 1, 1, 1).mean(), 0);
    }

    /** "OLDEST, YOUNGEST: of the greatest, the least AGE (of several the least; none)". */
    static void oldestAndYoungest() {
        Check.due("none", new CribLine().oldest(), -1);
        Check.due("none", new CribLine().youngest(), -1);
        Check.due("of one", boys(7).oldest(), 0);
        Check.due("of one", boys(7).youngest(), 0);
        Check.due("of several", boys(8, 9, 7, 9, 7).oldest(), 1);
        Check.due("of several", boys(8, 9, 7, 9, 7).youngest(), 2);
        Check.due("0 is the least", boys(89, 0).youngest(), 1);
        Check.due("89 is the greatest", boys(0, 89).oldest(), 1);
        Check.due("the last", boys(8, 8, 8, 8, 8, 8, 8, 9).oldest(), 7);
        Check.due("the last", boys(8, 8, 8, 8, 8, 8, 8, 7).youngest(), 7);
    }

    /** "CRIB: those in it, as bits": of 0 and of 7. */
    static void cribOfTheLast() {
        Check.due("0 and 7", boys(4, 5, 5, 5, 5, 5, 5, 4).crib(), 0b10000001);
        Check.due("none", boys(5, 89).crib(), 0);
    }

    /** "SPREAD: the fewest steps round the ring, one way, from some AGE over all others (0 of one, or none)". */
    static void spread() {
        Check.due("none", new CribLine().spread(), 0);
        Check.due("one", boys(50).spread(), 0);
        Check.due("like AGES", boys(50, 50).spread(), 0);
        Check.due("over 0", boys(89, 0).spread(), 1);
        Check.due("the half", boys(0, 45).spread(), 45);
        Check.due("not round", boys(0, 44).spread(), 44);
        Check.due("round", boys(0, 46).spread(), 44);
        Check.due("three thirds", boys(0, 30, 60).spread(), 60);
        Check.due("all but the greatest way between two", boys(80, 10, 40).spread(), 50);
        CribLine x = Check.of("round 2;person boy age 0;person boy age 1");
        Check.due("ROUND 2", x.spread(), 1);
    }

    public static void main(String[] args) throws ReflectiveOperationException {
        Edge.run(EdgeTiesTest.class);
    }
}
