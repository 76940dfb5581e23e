import java.util.function.Consumer;

/**
 * The paragraph of the exceptions: which one of several is thrown first, and that a call that throws changes nothing
 * but the TAPE, where it is used up, and fault(), where a text is read. Each method is a test of one sentence.
 */
final class EdgeRefusedTest {
    private interface Of {
        void call(CribLine x, int person);
    }

    /** Six people with all that they can have; THE LAW, THE IMAGE, ACTS, rows, a fault and a TAPE. */
    private static CribLine lived() {
        CribLine x = Check.of("round 60;ripe 7;step 3;day 5;person girl age 40 wants 100 stern 30 permits 9;person boy age 30 of 0 wants 50 permits 9;"
                + "person girl age 4;person boy age 9 permits 1;person boy age 50;person girl age 51;governs 0 1;governs 1 0", "no 2 if kin;yes 1 if wed;no 3 if turns > 0");
        Check.family(x, "wed 2 3;governs 4 5");
        x.stern(4, 10);
        x.image();
        x.say(0, 1, false);
        x.days(3);
        x.use(0);
        x.lend(3, 0);
        x.seed(99);
        Edge.wrongFamily(x, "ripe 4;step ^x");
        Check.tape(x, "step 7");
        return x;
    }

    private static void refused(String what, Class<? extends RuntimeException> kind, Consumer<CribLine> call) {
        Edge.refused(what, kind, EdgeRefusedTest::lived, call);
    }

    private static void nobody(String what, Of call) {
        for (int person : new int[] {-1, 6, 7, 8, 32, Integer.MIN_VALUE, Integer.MAX_VALUE}) {
            refused(what + " of " + person, Edge.NOBODY, x -> call.call(x, person));
        }
    }

    // ---- "IndexOutOfBoundsException: there is no such PERSON"

    /** Of the one who is told first. */
    static void nobodyFirst() {
        nobody("person", (x, p) -> x.person(p, 0));
        nobody("lent", (x, p) -> x.lent(p, 0));
        nobody("weighs", (x, p) -> x.weighs(p, 0, true));
        nobody("gap", (x, p) -> x.gap(p, 0));
        nobody("say", (x, p) -> x.say(p, 0, true));
        nobody("bear", (x, p) -> x.bear(p, true));
        nobody("wed", (x, p) -> x.wed(p, 4));
        nobody("part", (x, p) -> x.part(p));
        nobody("lend", (x, p) -> x.lend(p, 4));
        nobody("use", (x, p) -> x.use(p));
        nobody("govern", (x, p) -> x.govern(p, 4, true));
        nobody("stern", (x, p) -> x.stern(p, 4));
    }

    /** Of the one of whom something is asked. */
    static void nobodyAsked() {
        nobody("would", (x, p) -> x.would(p, 0, true));
        nobody("fewest", (x, p) -> x.fewest(p, 0));
        nobody("first", (x, p) -> x.first(p, 0));
        nobody("can", (x, p) -> x.can(p, 0));
        nobody("harsh", (x, p) -> x.harsh(p));
        nobody("kind", (x, p) -> x.kind(p));
        nobody("over", (x, p) -> x.over(p));
        nobody("mate", (x, p) -> x.mate(p));
        nobody("stable", (x, p) -> x.stable(p));
        nobody("owes", (x, p) -> x.owes(p, 0));
        nobody("ring", (x, p) -> x.ring(p));
        nobody("rests", (x, p) -> x.rests(p, 0));
        nobody("branch", (x, p) -> x.branch(p));
        nobody("kin", (x, p) -> x.kin(p, 0));
        nobody("cousins", (x, p) -> x.cousins(p));
        nobody("under", (x, p) -> x.under(p));
        nobody("odds", (x, p) -> x.odds(p, 0, 0));
        nobody("ahead", (x, p) -> x.ahead(p, 0, true));
        nobody("led", (x, p) -> x.led(p, true));
    }

    /** Of the other one. */
    static void nobodySecond() {
        nobody("lent", (x, p) -> x.lent(0, p));
        nobody("weighs", (x, p) -> x.weighs(0, p, false));
        nobody("gap", (x, p) -> x.gap(0, p));
        nobody("say", (x, p) -> x.say(0, p, false));
        nobody("wed", (x, p) -> x.wed(0, p));
        nobody("lend", (x, p) -> x.lend(0, p));
        nobody("govern", (x, p) -> x.govern(0, p, true));
        nobody("would", (x, p) -> x.would(0, p, false));
        nobody("owes", (x, p) -> x.owes(0, p));
        nobody("rests", (x, p) -> x.rests(0, p));
        nobody("kin", (x, p) -> x.kin(0, p));
    }

    /** Ahead of "both are one": of two like numbers that are nobody's. */
    static void nobodyAheadOfOne() {
        nobody("lent", (x, p) -> x.lent(p, p));
        nobody("weighs", (x, p) -> x.weighs(p, p, true));
        nobody("gap", (x, p) -> x.gap(p, p));
        nobody("say", (x, p) -> x.say(p, p, true));
        nobody("wed", (x, p) -> x.wed(p, p));
        nobody("lend", (x, p) -> x.lend(p, p));
        nobody("govern", (x, p) -> x.govern(p, p, false));
        nobody("would", (x, p) -> x.would(p, p, true));
        nobody("owes", (x, p) -> x.owes(p, p));
        nobody("rests", (x, p) -> x.rests(p, p));
        nobody("kin", (x, p) -> x.kin(p, p));
    }

    /** Ahead of "a number is none". */
    static void nobodyAheadOfNumbers() {
        nobody("person, what 11", (x, p) -> x.person(p, 11));
        nobody("stern 101", (x, p) -> x.stern(p, 101));
        nobody("fewest to 60", (x, p) -> x.fewest(p, 60));
        nobody("first to - 1", (x, p) -> x.first(p, -1));
        nobody("can of 21", (x, p) -> x.can(p, 21));
        nobody("odds of N 4", (x, p) -> x.odds(p, 4, 0));
        nobody("odds of K 4", (x, p) -> x.odds(p, 0, 4));
        nobody("ahead by 101", (x, p) -> x.ahead(p, 101, true));
    }

    // ---- "IllegalArgumentException: a number is none, or two are one"

    /** "two are one": ahead of "it cannot be". */
    static void twoAreOne() {
        for (int p : new int[] {0, 1, 5}) {
            refused("lent", Edge.NONE_SUCH, x -> x.lent(p, p));
            refused("weighs", Edge.NONE_SUCH, x -> x.weighs(p, p, true));
            refused("gap", Edge.NONE_SUCH, x -> x.gap(p, p));
            refused("wed", Edge.NONE_SUCH, x -> x.wed(p, p));
            refused("lend", Edge.NONE_SUCH, x -> x.lend(p, p));
            refused("govern", Edge.NONE_SUCH, x -> x.govern(p, p, true));
            refused("would", Edge.NONE_SUCH, x -> x.would(p, p, true));
            refused("owes", Edge.NONE_SUCH, x -> x.owes(p, p));
            refused("rests", Edge.NONE_SUCH, x -> x.rests(p, p));
            refused("kin", Edge.NONE_SUCH, x -> x.kin(p, p));
        }
    }

    /** "a number is none": just below and just above, and at the ends of int. */
    static void numbersThatAreNone() {
        for (int n : Edge.outside(0, 100)) {
            refused("stern " + n, Edge.NONE_SUCH, x -> x.stern(0, n));
            refused("ahead " + n, Edge.NONE_SUCH, x -> x.ahead(0, n, true));
            refused("trial " + n, Edge.NONE_SUCH, x -> x.trial(n, true));
            refused("span " + n, Edge.NONE_SUCH, x -> x.span(n, true));
        }
        for (int n : Edge.outside(1, 100)) refused("days " + n, Edge.NONE_SUCH, x -> x.days(n));
        for (int n : Edge.outside(0, 59)) {
            refused("fewest " + n, Edge.NONE_SUCH, x -> x.fewest(1, n));
            refused("first " + n, Edge.NONE_SUCH, x -> x.first(1, n));
        }
        for (int n : Edge.outside(0, 20)) refused("can " + n, Edge.NONE_SUCH, x -> x.can(1, n));
        for (int n : Edge.outside(0, 60)) refused("mild " + n, Edge.NONE_SUCH, x -> x.mild(n));
        for (int n : Edge.outside(0, 3)) {
            refused("odds N " + n, Edge.NONE_SUCH, x -> x.odds(1, n, 0));
            refused("odds K " + n, Edge.NONE_SUCH, x -> x.odds(1, 0, n));
        }
    }

    /** Who is not GOVERNED has numbers that are none, too. */
    static void numbersOfWhoIsFree() {
        refused("fewest", Edge.NONE_SUCH, x -> x.fewest(4, 60));
        refused("first", Edge.NONE_SUCH, x -> x.first(4, 60));
        refused("can", Edge.NONE_SUCH, x -> x.can(4, 21));
        refused("odds N", Edge.NONE_SUCH, x -> x.odds(4, 4, 0));
        refused("odds K", Edge.NONE_SUCH, x -> x.odds(4, 0, -1));
    }

    // ---- "IllegalStateException: it cannot be"

    /** say, rests: "the first one does not govern the other one". */
    static void cannotSay() {
        refused("who does not govern", Edge.CANNOT, x -> x.say(0, 4, true));
        refused("the other way", Edge.CANNOT, x -> x.say(5, 4, false));
        refused("to itself", Edge.CANNOT, x -> x.say(0, 0, true));
        refused("RESTS of who does not govern", Edge.CANNOT, x -> x.rests(0, 4));
        refused("RESTS the other way", Edge.CANNOT, x -> x.rests(5, 4));
    }

    /** bear: "that one is a boy, or there are 8". */
    static void cannotBear() {
        refused("a boy", Edge.CANNOT, x -> x.bear(1, true));
        Edge.refused("a ninth", Edge.CANNOT, () -> {
            CribLine x = lived();
            x.bear(0, true);
            x.bear(6, false);
            return x;
        }, x -> x.bear(0, true));
    }

    /** wed, part: "it may not be", "there is none". */
    static void cannotWedOrPart() {
        refused("PARENT and child", Edge.CANNOT, x -> x.wed(0, 1));
        refused("child and PARENT", Edge.CANNOT, x -> x.wed(1, 0));
        refused("like SORTS", Edge.CANNOT, x -> x.wed(1, 4));
        refused("the first has a SPOUSE", Edge.CANNOT, x -> x.wed(2, 4));
        refused("the second has a SPOUSE", Edge.CANNOT, x -> x.wed(4, 2));
        refused("no SPOUSE", Edge.CANNOT, x -> x.part(0));
    }

    /** lend, use: "it has none, the other one has 9, or LENT is 9". */
    static void cannotLendOrUse() {
        refused("it has none", Edge.CANNOT, x -> x.lend(4, 5));
        refused("the other one has 9", Edge.CANNOT, x -> x.lend(0, 1));
        refused("none to use", Edge.CANNOT, x -> x.use(5));
        Edge.refused("LENT is 9", Edge.CANNOT, () -> {
            CribLine x = lived();
            for (int i = 0; i < 9; i++) {
                x.lend(1, 4);
                x.use(4);
            }
            x.lend(0, 1);
            return x;
        }, x -> x.lend(1, 4));
    }

    // ---- "NoSuchElementException: another what"

    /** person and log. */
    static void anotherWhat() {
        for (int n : Edge.outside(0, 10)) refused("person, what " + n, Edge.NO_WHAT, x -> x.person(0, n));
        for (int n : Edge.outside(0, 4)) {
            refused("log, what " + n, Edge.NO_WHAT, x -> x.log(0, n));
            refused("log of no row, what " + n, Edge.NO_WHAT, x -> x.log(99, n));
        }
    }

    // ---- "a call that throws changes nothing but the TAPE, where it is used up, and fault(), where a text is read"

    private static CribLine withTape(String text) {
        CribLine x = lived();
        x.end(0);
        Check.tape(x, text);
        return x;
    }

    /** family: a wrong text, and a right one where there are 12. */
    static void refusedFamily() {
        Edge.refusedText("wrong", Edge.NONE_SUCH, 7, () -> withTape("step 9;^"), CribLine::family);
        Edge.refusedText("a 13th", Edge.TOO_MANY, -1, () -> {
            CribLine x = lived();
            x.end(0);
            for (int i = 0; i < 10; i++) Check.family(x, "");
            x.use(0);
            x.image();
            x.use(0);
            Edge.wrongFamily(x, "ripe ^x");
            Check.tape(x, "step 9;ripe 9");
            return x;
        }, CribLine::family);
    }

    /** law: a wrong text. */
    static void refusedLaw() {
        Edge.refusedText("wrong", Edge.NONE_SUCH, 5, () -> withTape("no 9;^"), CribLine::law);
    }

    /** said, ask: fault() stays, as no text is read. */
    static void refusedSightings() {
        int fault = lived().fault();
        Edge.refusedText("SAID of an odd byte", Edge.NONE_SUCH, fault, () -> withTape("\u0001"), x -> x.said(1));
        Edge.refusedText("ASK of an odd byte", Edge.NONE_SUCH, fault, () -> withTape("\u0001"), x -> x.ask(1));
        Edge.refusedText("SAID of 42 bytes", Edge.NONE_SUCH, fault, () -> withTape("\u0001".repeat(42)), x -> x.said(1));
        Edge.refusedText("ASK of 42 bytes", Edge.NONE_SUCH, fault, () -> withTape("\u0001".repeat(42)), x -> x.ask(1));
        Edge.refusedText("SAID of no AGE", Edge.NONE_SUCH, fault, () -> withTape("\u0001\u003c"), x -> x.said(1));
        Edge.refusedText("ASK of no AGE", Edge.NONE_SUCH, fault, () -> withTape("\u003c\u0001"), x -> x.ask(1));
    }

    /** said, ask: "IndexOutOfBoundsException" goes ahead of "the TAPE is not that"; the TAPE is used up all the same. */
    static void sightingsOfNobody() {
        int fault = lived().fault();
        for (int person : Edge.outside(0, 5)) {
            Edge.refusedText("SAID", Edge.NOBODY, fault, () -> withTape("\u0001"), x -> x.said(person));
            Edge.refusedText("ASK", Edge.NOBODY, fault, () -> withTape("\u0001"), x -> x.ask(person));
            Edge.refusedText("SAID, a right TAPE", Edge.NOBODY, fault, () -> withTape("\u0001\u0002"), x -> x.said(person));
            Edge.refusedText("ASK, a right TAPE", Edge.NOBODY, fault, () -> withTape("\u0001\u0002"), x -> x.ask(person));
        }
    }

    /** What tells NONE or false and throws nothing changes nothing either. */
    static void toldNoneChangesNothing() {
        CribLine x = lived();
        x.count(13);
        x.count(-1);
        x.log(60, 0);
        x.log(-1, 4);
        x.end(-1);
        x.end(7);
        x.first(4, 1);
        x.fewest(4, 1);
        x.harsh(2);
        x.kind(2);
        x.mate(2);
        Edge.same("behind all these", x, lived());
    }

    public static void main(String[] args) throws ReflectiveOperationException {
        Edge.run(EdgeRefusedTest.class);
    }
}
