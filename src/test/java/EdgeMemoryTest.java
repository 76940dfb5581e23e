/** Boundary cases of SEED, what is undone, THE IMAGE and count (promises 59 to 63). Each method is a test of one sentence. */
final class EdgeMemoryTest {
    private static final int MIN = Integer.MIN_VALUE;
    private static final int MAX = Integer.MAX_VALUE;

    private static CribLine two() {
        return Check.of("person girl age 40 wants 100 stern 40 permits 5;person boy age 30 wants 50 stern 60;governs 0 1;governs 1 0", "no 3;yes 1 if wed");
    }

    // ---- Promise 59

    /** "SEED: what it was": any int. */
    static void anySeed() {
        CribLine x = new CribLine();
        int was = 1;
        for (int n : new int[] {0, -1, MIN, MAX, 1, 12345}) {
            Check.due("SEED", x.seed(n), was);
            was = n;
        }
        Check.due("the latest", x.seed(5), was);
    }

    /** SEED told is no ACT: it is not remembered. */
    static void seedIsNoAct() {
        CribLine x = two();
        x.seed(77);
        Check.due("ACTS", x.count(12), 0);
        Check.due("none", x.undo(), false);
        Check.due("SEED stays", x.seed(77), 77);
    }

    // ---- Promise 60

    /** "whether there was one". */
    static void undoWithoutAnAct() {
        CribLine x = two();
        String state = Edge.state(x);
        Check.due("none", x.undo(), false);
        Edge.alike("nothing happens", Edge.state(x), state);
        x.stern(0, 1);
        Check.due("one", x.undo(), true);
        Check.due("none any more", x.undo(), false);
        Edge.alike("as at first", Edge.state(x), state);
    }

    /** "12 are remembered": the 12th is, what is ahead of the latest 12 is not. */
    static void twelveActs() {
        CribLine x = two();
        for (int i = 1; i <= 12; i++) {
            x.stern(0, i);
            Check.due("ACTS", x.count(12), i);
        }
        x.stern(0, 13);
        Check.due("12 at most", x.count(12), 12);
        for (int i = 12; i >= 1; i--) {
            Check.due("undone", x.undo(), true);
            Check.due("STERN", x.person(0, 6), i);
            Check.due("ACTS", x.count(12), i - 1);
        }
        Check.due("no 13th", x.undo(), false);
        Check.due("STERN", x.person(0, 6), 1);
    }

    /** 12 ACTS in all: the first of them is undone, too. */
    static void allOfTwelve() {
        CribLine x = two();
        for (int i = 1; i <= 12; i++) x.stern(0, i);
        for (int i = 1; i <= 12; i++) Check.due("undone", x.undo(), true);
        Check.due("as at first", x.person(0, 6), 40);
    }

    /** "the latest ACT not undone yet": an ACT behind what was undone takes its place. */
    static void actsBehindUndone() {
        CribLine x = two();
        x.stern(0, 1);
        x.stern(0, 2);
        x.undo();
        x.stern(0, 3);
        Check.due("ACTS", x.count(12), 2);
        x.undo();
        Check.due("behind the first", x.person(0, 6), 1);
        x.undo();
        Check.due("as at first", x.person(0, 6), 40);
        Check.due("none", x.undo(), false);
    }

    /** 200 ACTS, each other one undone: the one undone has taken the place of the oldest of 12. */
    static void actsRoundTheRow() {
        CribLine x = two();
        for (int i = 0; i < 100; i++) {
            x.stern(0, i);
            x.stern(1, i);
            x.undo();
        }
        Check.due("12 less the one undone", x.count(12), 11);
        for (int i = 99; i > 88; i--) {
            Check.due("STERN", x.person(0, 6), i);
            x.undo();
        }
        Check.due("STERN", x.person(0, 6), 88);
        Check.due("the other one is as at first", x.person(1, 6), 60);
        Check.due("none", x.undo(), false);
    }

    /** "DAYS of one call are one". */
    static void daysAreOne() {
        CribLine x = two();
        String state = Edge.state(x);
        x.days(100);
        Check.due("ACTS", x.count(12), 1);
        x.undo();
        Edge.alike("DAY, AGES, TURNS, rows, SEED", Edge.state(x), state);
    }

    /** "all is as ahead of it": of each kind of ACT. */
    static void allIsAsAhead() {
        CribLine x = two();
        x.say(0, 1, true);
        x.seed(9);
        String[] states = new String[10];
        states[0] = Edge.state(x);
        x.say(1, 0, false);
        states[1] = Edge.state(x);
        x.bear(0, true);
        states[2] = Edge.state(x);
        x.wed(0, 1);
        states[3] = Edge.state(x);
        x.part(1);
        states[4] = Edge.state(x);
        x.lend(0, 1);
        states[5] = Edge.state(x);
        x.use(1);
        states[6] = Edge.state(x);
        x.govern(0, 1, false);
        states[7] = Edge.state(x);
        x.stern(1, 0);
        states[8] = Edge.state(x);
        x.days(7);
        for (int i = 8; i >= 0; i--) {
            x.undo();
            Edge.alike("behind undone " + i, Edge.state(x), states[i]);
        }
    }

    /** "(each also if it changes nothing)": each is remembered, and undone by itself. */
    static void actsThatChangeNothing() {
        CribLine x = two();
        x.stern(0, 1);
        x.stern(0, 1);
        x.govern(0, 1, true);
        x.govern(0, 1, true);
        Check.due("ACTS", x.count(12), 4);
        for (int i = 3; i >= 1; i--) {
            Check.due("undone", x.undo(), true);
            Check.due("STERN", x.person(0, 6), 1);
        }
        x.undo();
        Check.due("STERN", x.person(0, 6), 40);
        CribLine y = Check.of("day 999;person boy age 1");
        for (int i = 0; i < 91; i++) y.days(100);
        String state = Edge.state(y);
        Check.due("DAY", y.count(3), 9999);
        y.undo();
        y.days(1);
        Edge.alike("a DAY at the end of all", Edge.state(y), state);
    }

    /** What is asked is no ACT. */
    static void askingIsNoAct() {
        CribLine x = two();
        x.trial(3, false);
        x.span(3, false);
        x.would(0, 1, true);
        x.ahead(0, 3, true);
        x.match(true);
        x.said(0);
        x.ask(0);
        x.image();
        x.rests(0, 1);
        x.mild(60);
        Check.due("ACTS", x.count(12), 0);
    }

    /** A call that throws is no ACT. */
    static void refusedIsNoAct() {
        CribLine x = two();
        Check.refused("days", Edge.NONE_SUCH, () -> x.days(0));
        Check.refused("part", Edge.CANNOT, () -> x.part(0));
        Check.refused("stern", Edge.NONE_SUCH, () -> x.stern(0, 101));
        Check.refused("say", Edge.CANNOT, () -> x.say(0, 0, true));
        Check.due("ACTS", x.count(12), 0);
    }

    /** "A text ..: none are remembered": of THE FAMILY, of THE LAW; an empty one, too. */
    static void noneBehindAText() {
        String[] family = {"step 2", "", "  "};
        for (String text : family) {
            CribLine x = two();
            x.stern(0, 1);
            Check.family(x, text);
            Check.due("ACTS behind '" + text + "'", x.count(12), 0);
            Check.due("none", x.undo(), false);
            Check.due("STERN stays", x.person(0, 6), 1);
        }
        String[] law = {"no 2", "", "  "};
        for (String text : law) {
            CribLine x = two();
            x.stern(0, 1);
            Check.law(x, text);
            Check.due("ACTS behind the law '" + text + "'", x.count(12), 0);
            Check.due("none", x.undo(), false);
            Check.due("STERN stays", x.person(0, 6), 1);
        }
    }

    /** A text that throws changes nothing: ACTS are remembered still. */
    static void allBehindAWrongText() {
        CribLine x = two();
        x.stern(0, 1);
        Edge.wrongFamily(x, "step ^x");
        Edge.wrongLaw(x, "no ^x");
        Check.due("ACTS", x.count(12), 1);
        Check.due("undone", x.undo(), true);
        Check.due("STERN", x.person(0, 6), 40);
        CribLine y = new CribLine();
        for (int i = 0; i < 11; i++) Check.family(y, "");
        Check.family(y, "person girl age 1");
        y.stern(0, 1);
        Check.tape(y, "step 3");
        Check.refused("a 13th text", Edge.TOO_MANY, y::family);
        Check.due("ACTS", y.count(12), 1);
    }

    /** "going back: none are remembered"; a way back that is not there changes nothing. */
    static void noneBehindGoingBack() {
        CribLine x = two();
        x.stern(0, 1);
        Check.due("no THE IMAGE", x.back(), false);
        Check.due("ACTS", x.count(12), 1);
        x.image();
        Check.due("keeping it changes nothing", x.count(12), 1);
        x.stern(0, 2);
        Check.due("back", x.back(), true);
        Check.due("ACTS", x.count(12), 0);
        Check.due("none", x.undo(), false);
        Check.due("STERN", x.person(0, 6), 1);
    }

    /** "(but for the TAPE, fault(), THE IMAGE)": what is undone leaves these. */
    static void undoLeavesTapeFaultAndImage() {
        CribLine x = two();
        x.stern(0, 1);
        x.image();
        x.stern(0, 2);
        Edge.wrongFamily(x, "step ^x");
        Check.tape(x, "step 3");
        x.undo();
        x.undo();
        Check.due("STERN", x.person(0, 6), 40);
        Check.due("fault", x.fault(), 5);
        Check.due("THE IMAGE is of behind the first ACT", x.back(), true);
        Check.due("STERN", x.person(0, 6), 1);
        Check.due("the TAPE", x.family(), 2);
        Check.due("STEP", x.count(6), 3);
    }

    /** THE LAW and texts are no ACTS: what is undone leaves them. */
    static void undoLeavesTheLaw() {
        CribLine x = two();
        Check.law(x, "no 5");
        x.stern(0, 1);
        x.undo();
        Check.due("LINES", x.count(2), 1);
        Check.due("a no", x.weighs(0, 1, false), 6);
        Check.due("texts", x.count(1), 1);
    }

    /** SEED is as ahead of the ACT that is undone, also where it was told behind it. */
    static void undoBringsSeedBack() {
        CribLine x = two();
        x.seed(5);
        x.days(3);
        x.seed(MIN);
        x.undo();
        Check.due("SEED", x.seed(5), 5);
        x.days(3);
        String state = Edge.state(x);
        x.undo();
        x.days(3);
        Edge.alike("the same DAYS again", Edge.state(x), state);
    }

    /** "all is as ahead of it": the row that the 61st SAYING took away is there again. */
    static void undoBringsTheOldestRowBack() {
        CribLine x = two();
        for (int i = 0; i < 60; i++) x.say(i % 2, 1 - i % 2, i % 3 == 0);
        Check.law(x, "no 3"); // no ACT is remembered behind a text
        String state = Edge.state(x);
        int oldest = x.log(59, 4);
        x.say(0, 1, true);
        Check.due("another one is the oldest", x.log(59, 1), 1);
        x.undo();
        Check.due("who said the oldest", x.log(59, 1), 0);
        Check.due("AGE of the oldest", x.log(59, 4), oldest);
        Edge.alike("behind one undone", Edge.state(x), state);
    }

    /** The same of DAYS in which all 60 rows are taken away. */
    static void undoBringsAllRowsBack() {
        CribLine x = two();
        for (int i = 0; i < 60; i++) x.say(i % 2, 1 - i % 2, i % 3 == 0);
        Check.law(x, "no 3"); // no ACT is remembered behind a text
        String state = Edge.state(x);
        x.days(100);
        Check.due("all are new", x.log(59, 0) > 0, true);
        x.undo();
        Edge.alike("behind DAYS undone", Edge.state(x), state);
    }

    // ---- Promises 61, 62

    /** "false, and nothing happens, if none was kept". */
    static void backWithoutAnImage() {
        CribLine x = two();
        x.stern(0, 1);
        x.seed(4);
        String state = Edge.state(x);
        Check.due("none", x.back(), false);
        Edge.alike("nothing happens", Edge.state(x), state);
    }

    /** THE IMAGE of nobody may be kept, too. */
    static void imageOfNobody() {
        CribLine x = new CribLine();
        x.image();
        Check.family(x, "person girl age 3;step 3");
        Check.law(x, "no 1");
        x.days(9);
        Check.due("back", x.back(), true);
        Edge.same("as a new object", x, imaged(new CribLine()));
    }

    private static CribLine imaged(CribLine x) {
        x.image();
        return x;
    }

    /** "THE IMAGE (one)": a second one takes the first one's place. */
    static void oneImage() {
        CribLine x = two();
        x.image();
        x.stern(0, 1);
        x.image();
        x.stern(0, 2);
        x.back();
        Check.due("the second", x.person(0, 6), 1);
        x.back();
        Check.due("the second again", x.person(0, 6), 1);
    }

    /** It may be gone back to as often as one will, whatever comes between. */
    static void backAgainAndAgain() {
        CribLine x = two();
        x.image();
        String state = Edge.state(x);
        for (int i = 0; i < 5; i++) {
            x.days(10);
            x.say(0, 1, false);
            x.use(0);
            x.bear(0, true);
            x.lend(0, 2);
            Check.law(x, "calm");
            Check.family(x, "step 9;ripe 9;round 99;day 9");
            Check.due("back", x.back(), true);
            Edge.alike("time " + i, Edge.state(x), state);
        }
    }

    /** "of all": THE LAW, too, and that there is none. */
    static void imageOfTheLaw() {
        CribLine x = Check.of("person girl age 1;person boy age 2");
        x.image();
        Check.law(x, "no 5");
        x.back();
        Check.due("none", x.count(2), -1);
        Check.due("a no", x.weighs(0, 1, false), 1);
        Check.law(x, "no 5;no 6");
        x.image();
        Check.law(x, "");
        x.back();
        Check.due("LINES", x.count(2), 2);
        Check.due("a no", x.weighs(0, 1, false), 12);
    }

    /** A LAW that is told behind THE IMAGE leaves it as it was kept. */
    static void imageIsACopy() {
        CribLine x = two();
        x.image();
        x.govern(0, 1, false);
        x.stern(1, 3);
        x.say(1, 0, true);
        x.days(2);
        x.lend(0, 1);
        x.wed(0, 1);
        x.back();
        Edge.same("as it was kept", x, imaged(two()));
    }

    /** "(but for the TAPE, fault() and THE IMAGE itself)". */
    static void backLeavesTapeAndFault() {
        CribLine x = two();
        x.image();
        Edge.wrongFamily(x, "step ^x");
        Check.tape(x, "step 3");
        x.back();
        Check.due("fault", x.fault(), 5);
        Check.due("the TAPE", x.family(), 2);
        Check.due("STEP", x.count(6), 3);
    }

    /** "of all": rows of THE LOG that were undone and told otherwise are as they were kept. */
    static void imageOfTheLog() {
        CribLine x = two();
        x.say(0, 1, true);
        x.say(0, 1, true);
        x.image();
        x.undo();
        x.undo();
        x.say(1, 0, false);
        x.say(1, 0, false);
        x.back();
        for (int ago = 0; ago < 2; ago++) {
            Check.due("who said it", x.log(ago, 1), 0);
            Check.due("a yes", x.log(ago, 3), 1);
        }
        Check.due("none behind", x.log(2, 1), -1);
        String state = Edge.state(x);
        for (int i = 0; i < 70; i++) x.say(1, 0, false);
        Check.due("all are new", x.log(59, 3), 0);
        x.back();
        Check.due("rows", x.count(11), 2);
        Edge.alike("behind 70 rows more", Edge.state(x), state);
    }

    /** A way back, then ACTS: they are remembered anew. */
    static void actsBehindGoingBack() {
        CribLine x = two();
        for (int i = 0; i < 12; i++) x.stern(0, i);
        x.image();
        x.back();
        x.stern(0, 99);
        Check.due("ACTS", x.count(12), 1);
        x.undo();
        Check.due("STERN", x.person(0, 6), 11);
        Check.due("none", x.undo(), false);
    }

    // ---- Promise 63

    /** "NONE for another what": 0 to 12 are, none beside. */
    static void counts() {
        CribLine x = Check.of("person boy age 1", "no 1");
        for (int what = 0; what <= 12; what++) Check.due("count " + what + " is none", x.count(what) == -1, false);
        for (int what : new int[] {-1, 13, 14, 255, 256, MIN, MAX}) Check.due("count " + what, x.count(what), -1);
    }

    /** "TURNS of all together": below 0, too; NONE is not told apart. */
    static void turnsTogether() {
        CribLine x = Check.of("round 2;person boy age 1;person boy age 1;person boy age 0;governs 0 1;governs 1 0;governs 0 2");
        x.say(1, 0, true);
        Check.due("- 1", x.count(8), -1);
        x.say(0, 1, true);
        Check.due("- 2", x.count(8), -2);
        for (int i = 0; i < 7; i++) x.say(0, 2, false);
        Check.due("4 and - 2", x.count(8), 2);
    }

    /** "AGES of all together": of eight in the greatest ring. */
    static void agesTogether() {
        CribLine x = Check.of("round 99;" + "person boy age 98;".repeat(7) + "person boy age 98");
        Check.due("8 times 98", x.count(7), 784);
        CribLine y = Check.of("person boy age 0;person boy age 0");
        Check.due("0", y.count(7), 0);
    }

    /** "boys, as bits", "those with a SPOUSE, as bits": of 0 and of 7. */
    static void bitsOfTheLast() {
        CribLine x = Check.of("person boy age 1;" + "person girl age 1;".repeat(6) + "person boy age 7;wed 7 1");
        Check.due("boys", x.count(9), 0b10000001);
        Check.due("those with a SPOUSE", x.count(10), 0b10000010);
        Check.due("boys of girls", Check.of("person girl age 1").count(9), 0);
    }

    public static void main(String[] args) throws ReflectiveOperationException {
        Edge.run(EdgeMemoryTest.class);
    }
}
