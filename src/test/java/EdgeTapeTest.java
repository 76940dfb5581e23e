/** Boundary cases of promises 1, 2, 3 and 6: a new object, the TAPE, the first wrong byte. Each method is a test of one sentence. */
final class EdgeTapeTest {
    private static final int BLANKS = 0x20202020;

    private static int blanks(CribLine x) {
        return x.feed(BLANKS, BLANKS, BLANKS, BLANKS, BLANKS);
    }

    private static CribLine fed(int times) {
        CribLine x = new CribLine();
        for (int i = 0; i < times; i++) blanks(x);
        return x;
    }

    // ---- Promise 1

    /** "A family of nobody." */
    static void newHasNobody() {
        CribLine x = new CribLine();
        Check.due("PEOPLE", x.count(0), 0);
        for (int person : new int[] {0, 1, 7, 8, -1, Integer.MIN_VALUE, Integer.MAX_VALUE}) {
            Check.refused("person " + person, Edge.NOBODY, () -> x.person(person, 0));
        }
    }

    /** What is so "at first": ROUND, RIPE, STEP, DAY; no text, no LAW, no row, no ACT. */
    static void newCounts() {
        CribLine x = new CribLine();
        int[] due = {0, 0, -1, 0, 90, 5, 1, 0, 0, 0, 0, 0, 0};
        for (int what = 0; what < due.length; what++) Check.due("count " + what, x.count(what), due[what]);
    }

    /** "none": what nobody can be is NONE. */
    static void newTellsNone() {
        CribLine x = new CribLine();
        Check.due("RICH", x.rich(), -1);
        Check.due("SENIOR", x.senior(), -1);
        Check.due("OLDEST", x.oldest(), -1);
        Check.due("YOUNGEST", x.youngest(), -1);
        Check.due("CRADLE", x.cradle(false, false), -1);
        Check.due("who is first in it", x.cradle(true, true), -1);
    }

    /** "Sets are bits; of none they count for nothing." */
    static void newSetsAreEmpty() {
        CribLine x = new CribLine();
        Check.due("CRIB", x.crib(), 0);
        Check.due("FREE", x.free(), 0);
        Check.due("boys", x.count(9), 0);
        Check.due("those with a SPOUSE", x.count(10), 0);
        Check.due("TRIAL", x.trial(100, true), 0);
    }

    /** "0 without", "0 of none", and sums of nobody. */
    static void newSumsAreZero() {
        CribLine x = new CribLine();
        Check.due("MEAN", x.mean(), 0);
        Check.due("SPREAD", x.spread(), 0);
        Check.due("TWINS", x.twins(), 0);
        Check.due("NET", x.net(), 0);
        Check.due("RUNS", x.runs(), 0);
        Check.due("MATCH", x.match(false), 0);
        Check.due("GAPS together", x.match(true), 0);
        Check.due("TRIAL", x.trial(100, false), 0);
        Check.due("SPAN, the least", x.span(100, false), 0);
        Check.due("SPAN, the greatest", x.span(100, true), 0);
        Check.due("DAYS", x.days(100), 0);
    }

    /** "SEED 1 at first". */
    static void newSeedIsOne() {
        Check.due("SEED", new CribLine().seed(0), 1);
    }

    /** A new object has no THE IMAGE, no ACT, no byte on the TAPE. */
    static void newRemembersNothing() {
        CribLine x = new CribLine();
        Check.due("back", x.back(), false);
        Check.due("undo", x.undo(), false);
        Check.due("a byte", x.end(1), false);
        Check.due("no byte", x.end(0), true);
    }

    // ---- Promise 2

    /** "Twenty bytes come behind the TAPE": how many it has. */
    static void feedTellsHowMany() {
        CribLine x = new CribLine();
        for (int i = 1; i <= 20; i++) Check.due("feed " + i, blanks(x), 20 * i);
    }

    /** "NONE .. if it would have more than 400": 400 are not more. */
    static void feedTo400() {
        CribLine x = fed(19);
        Check.due("400 bytes", blanks(x), 400);
        Check.due("a byte more", x.end(401), false);
        Check.due("400 are there", x.end(400), true);
    }

    /** "NONE .. if it would have more than 400": from 381 on. */
    static void feedFrom381() {
        CribLine x = fed(20);
        x.end(381);
        Check.due("401 bytes", blanks(x), -1);
        x.end(380);
        Check.due("400 bytes", blanks(x), 400);
    }

    /** "and none come": not one of the twenty, and the others stay. */
    static void feedNoneCome() {
        CribLine x = fed(20);
        Check.due("full", x.feed(-1, -1, -1, -1, -1), -1);
        Check.due("no byte came", x.end(401), false);
        Check.due("all blanks, as ahead of it", x.family(), 1);
        CribLine y = fed(20);
        y.end(390);
        Check.due("no room for twenty", y.feed(-1, -1, -1, -1, -1), -1);
        Check.due("not ten either", y.end(391), false);
        Check.due("all blanks, as ahead of it", y.family(), 1);
    }

    /** "of each number the highest first". */
    static void feedHighestFirst() {
        CribLine x = new CribLine();
        x.feed(0x73746570, 0x20313220, 0x20202020, 0x3b726970, 0x65203937); // "step 12     ;ripe 97"
        Check.due("twenty bytes are a text", x.family(), 1);
        Check.due("STEP", x.count(6), 12);
        Check.due("RIPE", x.count(5), 97);
    }

    /** A number below 0 has bytes of 128 and more: none is a blank, nor comes with a sign. */
    static void feedBytesAbove127() {
        for (int b : new int[] {128, 160, 200, 255}) {
            CribLine x = new CribLine();
            x.feed(0x73746570, 0x20370000 | b << 8, 0, 0, 0); // "step 7" and that byte
            x.end(7);
            Check.refused("byte " + b, Edge.NONE_SUCH, x::family);
            Check.due("its place", x.fault(), 6);
            x.feed(b << 24 | 0x202020, 0, 0, 0, 0);
            x.end(4);
            Check.refused("byte " + b + " as the highest", Edge.NONE_SUCH, x::law);
            Check.due("its place", x.fault(), 0);
        }
    }

    /** A byte of SAID is 0 to 255, not below 0: 255 is no AGE, 0 is one. */
    static void feedBytesOfSightings() {
        CribLine x = Check.of("person boy age 0;person boy age 5;governs 1 0");
        x.feed(0xFFFF0000, 0, 0, 0, 0);
        x.end(2);
        Check.refused("255 and 255", Edge.NONE_SUCH, () -> x.said(0));
        x.feed(0x00590000, 0, 0, 0, 0);
        x.end(2);
        Check.due("0 and 89 are a no of 1", x.said(0), 0b0100);
    }

    /** "behind the TAPE": behind what end has left. */
    static void feedBehindTheEnd() {
        CribLine x = new CribLine();
        x.feed(0x73746570, 0x78787878, 0, 0, 0);
        x.end(4);
        Check.due("bytes", x.feed(0x20390000, 0, 0, 0, 0), 24);
        x.end(6);
        Check.due("a text of both", x.family(), 1);
        Check.due("STEP", x.count(6), 9);
    }

    // ---- Promise 3

    /** "The TAPE has its first n bytes alone". */
    static void endCutsBehindN() {
        CribLine x = new CribLine();
        x.feed(0x73746570, 0x20313978, 0, 0, 0); // "step 19x"
        Check.due("end 6", x.end(6), true);
        Check.due("not 7 any more", x.end(7), false);
        Check.due("a text", x.family(), 1);
        Check.due("STEP by the first 6 bytes", x.count(6), 1);
    }

    /** "false .. if it has fewer": as many are not fewer. */
    static void endAtAll() {
        CribLine x = fed(1);
        Check.due("21 of 20", x.end(21), false);
        Check.due("20 of 20", x.end(20), true);
        Check.due("20 again", x.end(20), true);
        Check.due("MAX", x.end(Integer.MAX_VALUE), false);
    }

    /** "and nothing happens, if it has fewer". */
    static void endTooFarChangesNothing() {
        CribLine x = fed(1);
        x.end(21);
        Check.due("20 bytes still, and 20 more", blanks(x), 40);
    }

    /** "or n is below 0": false, and nothing happens. */
    static void endBelow0() {
        CribLine x = fed(1);
        Check.due("-1", x.end(-1), false);
        Check.due("MIN", x.end(Integer.MIN_VALUE), false);
        Check.due("20 bytes still, and 20 more", blanks(x), 40);
    }

    /** n of 0 is not below 0: no byte is left. */
    static void endAt0() {
        CribLine x = fed(1);
        Check.due("0", x.end(0), true);
        Check.due("none is there", x.end(1), false);
        Check.due("20 of its own", blanks(x), 20);
    }

    /** An empty TAPE has 0 bytes. */
    static void endOfAnEmptyTape() {
        CribLine x = new CribLine();
        Check.due("0 of 0", x.end(0), true);
        Check.due("1 of 0", x.end(1), false);
    }

    // ---- "Uses the TAPE up", also where a call throws

    private static void isUsedUp(String what, CribLine x) {
        Check.due(what + ": no byte is left", x.end(1), false);
        Check.due(what + ": 20 bytes come to 20", blanks(x), 20);
    }

    /** family "Uses the TAPE up": by a right text, a wrong one, and one that is refused. */
    static void familyUsesTheTapeUp() {
        CribLine x = new CribLine();
        Check.family(x, "step 2");
        isUsedUp("right", x);
        x.end(0);
        Check.tape(x, "stop 2");
        Check.refused("wrong", Edge.NONE_SUCH, x::family);
        isUsedUp("wrong", x);
        x.end(0);
        for (int i = 1; i < 12; i++) Check.family(x, "");
        Check.tape(x, "step 2");
        Check.refused("a 13th", Edge.TOO_MANY, x::family);
        isUsedUp("refused", x);
    }

    /** law "Uses the TAPE up". */
    static void lawUsesTheTapeUp() {
        CribLine x = new CribLine();
        Check.law(x, "no 2");
        isUsedUp("right", x);
        x.end(0);
        Check.tape(x, "no no");
        Check.refused("wrong", Edge.NONE_SUCH, x::law);
        isUsedUp("wrong", x);
    }

    /** said "Uses the TAPE up". */
    static void saidUsesTheTapeUp() {
        CribLine x = Check.of("person boy age 0");
        Check.tape(x, 1, 2);
        x.said(0);
        isUsedUp("right", x);
        Check.refused("20 blanks and one", Edge.NONE_SUCH, () -> {
            x.feed(0, 0, 0, 0, 0);
            x.end(21);
            x.said(0);
        });
        isUsedUp("wrong", x);
        Check.refused("of nobody", Edge.NOBODY, () -> x.said(1));
        isUsedUp("of nobody", x);
    }

    /** ask "Uses the TAPE up". */
    static void askUsesTheTapeUp() {
        CribLine x = Check.of("person boy age 0");
        Check.tape(x, 1, 2);
        x.ask(0);
        isUsedUp("right", x);
        Check.refused("20 blanks and one", Edge.NONE_SUCH, () -> {
            x.feed(0, 0, 0, 0, 0);
            x.end(21);
            x.ask(0);
        });
        isUsedUp("wrong", x);
        Check.refused("of nobody", Edge.NOBODY, () -> x.ask(1));
        isUsedUp("of nobody", x);
    }

    /** Nothing else uses it up. */
    static void othersLeaveTheTape() {
        CribLine x = Check.of("person girl age 40 permits 2;person boy age 30;governs 0 1");
        Check.tape(x, "step 3");
        x.say(0, 1, true);
        x.bear(0, true);
        x.wed(0, 1);
        x.part(1);
        x.lend(0, 1);
        x.use(1);
        x.govern(1, 0, true);
        x.stern(0, 1);
        x.days(3);
        x.image();
        x.undo();
        x.back();
        x.trial(100, true);
        x.span(100, true);
        x.seed(4);
        x.match(true);
        x.fewest(0, 0);
        Check.due("7 bytes", x.end(7), false);
        Check.due("the text", x.family(), 2);
        Check.due("STEP", x.count(6), 3);
    }

    // ---- texts of 400 bytes

    /** A text may have 400 bytes: its last one counts. */
    static void familyOf400Bytes() {
        CribLine x = new CribLine();
        String text = " ".repeat(394) + "step 9";
        Check.due("right", Check.family(x, text), 1);
        Check.due("STEP", x.count(6), 9);
        Edge.wrongFamily(x, " ".repeat(393) + "step 9^)");
        Edge.wrongFamily(x, " ".repeat(393) + "step 9;^");
        Edge.wrongFamily(x, "^)" + " ".repeat(399));
    }

    /** A law of 400 bytes: as long a SUM, as many ATOMS as can be. */
    static void lawOf400Bytes() {
        CribLine x = Check.of("person boy age 1;person boy age 2");
        String sum = "1" + "+1".repeat(191); // 192 of 383 bytes
        Check.law(x, "no 7 if " + sum + ">191    ");
        Check.due("192 is above 191", x.weighs(0, 1, false), 8);
        Check.law(x, "no 7 if " + sum + ">192    ");
        Check.due("192 is not above 192", x.weighs(0, 1, false), 1);
        Check.law(x, "no 7 if 1<0" + "or 1<0".repeat(63) + " or 1<2    ");
        Check.due("the last of 65", x.weighs(0, 1, false), 8);
        Check.law(x, "no 7 if 1<2" + "and 1<2".repeat(54) + "and 2<1    ");
        Check.due("the last of 56", x.weighs(0, 1, false), 1);
        Edge.wrongLaw(x, "no 7 if " + sum + ">191   ^)");
    }

    /** A word may end with the last of 400 bytes. */
    static void wordAtTheLastByte() {
        CribLine x = Check.of("person boy age 1;person girl age 2;wed 0 1;step 3");
        Check.due("calm", Check.law(x, " ".repeat(396) + "calm"), 1);
        Check.due("it holds", x.weighs(0, 1, false), 0);
        Check.law(x, "no 7 if" + " ".repeat(390) + "wed");
        Check.due("wed", x.weighs(0, 1, false), 10);
        Check.law(x, "no 7 if 90 <" + " ".repeat(385) + "age");
        Check.due("age", x.weighs(0, 1, false), 3);
        Edge.wrongFamily(x, "person" + " ".repeat(391) + "boy^");
        Edge.wrongFamily(x, "person" + " ".repeat(391) + "^cat");
    }

    // ---- Promise 6

    /** "NONE .. ahead of any". */
    static void faultAheadOfAny() {
        Check.due("fault", new CribLine().fault(), -1);
    }

    /** "NONE without one": a right text takes the fault of the wrong one before away. */
    static void faultWithoutOne() {
        CribLine x = new CribLine();
        Edge.wrongFamily(x, "step ^x");
        Check.family(x, "step 1");
        Check.due("behind a right family", x.fault(), -1);
        Edge.wrongLaw(x, "no ^x");
        Check.law(x, "no 1");
        Check.due("behind a right law", x.fault(), -1);
    }

    /** "of the latest text that was read": of THE FAMILY and of THE LAW alike. */
    static void faultOfTheLatest() {
        CribLine x = new CribLine();
        Edge.wrongFamily(x, "step ^x");
        Edge.wrongLaw(x, "no 1 ^x");
        Check.due("of the law", x.fault(), 5);
        Edge.wrongFamily(x, "ripe 1 ^x");
        Check.due("of the family", x.fault(), 7);
        Check.law(x, "");
        Check.due("of the empty law", x.fault(), -1);
    }

    /** The first byte, and the place behind the last one. */
    static void faultAtBothEnds() {
        Edge.wrongFamily("^;");
        Edge.wrongLaw("^;");
        Edge.wrongFamily("step^");
        Edge.wrongLaw("yes^");
        Edge.wrongFamily("step   ^");
        Edge.wrongLaw("yes   ^");
    }

    /** "fault(), where a text is read (also by one that is refused)". */
    static void faultOfARefusedText() {
        CribLine x = new CribLine();
        for (int i = 0; i < 12; i++) Check.family(x, "");
        Edge.wrongFamily(x, "step ^21");
        Check.tape(x, "step 20");
        Check.refused("a right text, but the 13th", Edge.TOO_MANY, x::family);
        Check.due("it has no wrong byte", x.fault(), -1);
    }

    /** What is no text leaves fault(): SAID and ASK that throw, what is undone, going back. */
    static void faultStays() {
        CribLine x = Check.of("person boy age 1");
        x.stern(0, 1);
        x.image();
        Edge.wrongFamily(x, "step ^x");
        Check.tape(x, 1);
        Check.refused("no sightings", Edge.NONE_SUCH, () -> x.said(0));
        Check.tape(x, 1);
        Check.refused("no sightings", Edge.NONE_SUCH, () -> x.ask(0));
        x.undo();
        x.back();
        Check.due("fault", x.fault(), 5);
    }

    public static void main(String[] args) throws ReflectiveOperationException {
        Edge.run(EdgeTapeTest.class);
    }
}
