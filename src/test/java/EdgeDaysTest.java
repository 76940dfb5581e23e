/** Boundary cases of DAYS and of what is asked of days ahead (promises 19, 26 to 28, 40, 47, 54 to 56). Each method is a test of one sentence. */
final class EdgeDaysTest {
    private static final int MIN = Integer.MIN_VALUE;
    private static final int MAX = Integer.MAX_VALUE;
    private static final int[] SEEDS = {1, 0, -1, 2, 3, 6, MIN, MAX, 123456789, -987654321};

    /** 0 of that STERN governs 1 who has such WANTS. */
    private static CribLine two(int wants, int stern, int seed) {
        CribLine x = Check.of("person girl age 40 stern " + stern + ";person boy age 50 wants " + wants + ";governs 0 1");
        x.seed(seed);
        return x;
    }

    private static int seedOf(CribLine x) {
        int seed = x.seed(0);
        x.seed(seed);
        return seed;
    }

    /** AGES of these two after n DAYS, by DRAWS worked out without the class. */
    private static int agesOfTwo(int wants, int stern, int seed, int n) {
        int age = 50;
        int drawn = 0;
        for (int i = 0; i < n; i++) {
            drawn++;
            if (Edge.draw(seed, drawn) % 100 >= wants) continue;
            drawn += 2;
            age += Edge.draw(seed, drawn) % 100 < stern ? -1 : 1;
        }
        return 40 + age;
    }

    // ---- Promise 19: a DAY

    /** "if DRAW modulo 100 is below what it WANTS": as much is not below. */
    static void wantsAtTheDraw() {
        for (int seed : SEEDS) {
            int drawn = Edge.draw(seed, 1) % 100;
            CribLine x = two(drawn, 100, seed);
            Check.due("as much, SEED " + seed, x.days(1), 0);
            Check.due("rows", x.count(11), 0);
            CribLine y = two(drawn + 1, 100, seed);
            Check.due("1 more, SEED " + seed, y.days(1), 1);
            Check.due("rows", y.count(11), 1);
        }
    }

    /** "says no, if DRAW modulo 100 is below its STERN, else yes": as much is not below. */
    static void sternAtTheDraw() {
        for (int seed : SEEDS) {
            int drawn = Edge.draw(seed, 3) % 100;
            CribLine x = two(100, drawn, seed);
            Check.due("as much, SEED " + seed, x.days(1), 0);
            Check.due("a yes", x.person(1, 0), 51);
            CribLine y = two(100, drawn + 1, seed);
            Check.due("1 more, SEED " + seed, y.days(1), 1);
            Check.due("a no", y.person(1, 0), 49);
        }
    }

    /** "it asks the one of those who govern it (by numbers) of the place DRAW modulo how many these are": of 1 to 7. */
    static void placeOfWhoIsAsked() {
        for (int seed : SEEDS) {
            StringBuilder text = new StringBuilder("person boy age 40 wants 100" + ";person boy age 1".repeat(7));
            for (int governors = 1; governors <= 7; governors++) {
                CribLine x = Check.of(text.toString());
                for (int i = 0; i < governors; i++) x.govern(7 - i, 0, true);
                x.seed(seed);
                x.days(1);
                int place = Edge.draw(seed, 2) % governors;
                Check.due("of " + governors + ", SEED " + seed, x.log(0, 1), 7 - governors + 1 + place);
            }
        }
    }

    /** WANTS 0: never; WANTS 100: always. */
    static void wantsOfNoneAndAll() {
        CribLine x = two(0, 100, 1);
        Check.due("never", x.days(100), 0);
        Check.due("rows", x.count(11), 0);
        CribLine y = two(100, 100, 1);
        Check.due("always", y.days(100), 100);
    }

    /** STERN 0: always yes; STERN 100: always no. */
    static void sternOfNoneAndAll() {
        CribLine x = two(100, 0, 1);
        Check.due("no no", x.days(100), 0);
        Check.due("100 yes round the ring", x.person(1, 0), 60);
        Check.due("TURNS", x.person(1, 1), -1);
        CribLine y = two(100, 100, 1);
        Check.due("100 no", y.days(100), 100);
        Check.due("100 no round the ring", y.person(1, 0), 40);
        Check.due("TURNS", y.person(1, 1), 1);
    }

    /** "The first DRAW of each such PERSON always, the others just then": 1 or 3. */
    static void drawsOfOne() {
        for (int seed : SEEDS) {
            CribLine x = two(0, 50, seed);
            x.days(1);
            Check.due("1 DRAW, SEED " + seed, seedOf(x), Edge.seedBehind(seed, 1));
            CribLine y = two(100, 50, seed);
            y.days(1);
            Check.due("3 DRAWS, SEED " + seed, seedOf(y), Edge.seedBehind(seed, 3));
        }
    }

    /** "each PERSON that is GOVERNED by somebody": no DRAW for others. */
    static void noDrawsOfWhoIsFree() {
        CribLine x = Check.of("person girl age 40 wants 100;person boy age 50 wants 100");
        Check.due("no no", x.days(100), 0);
        Check.due("SEED", seedOf(x), 1);
        x.govern(0, 1, true);
        x.days(1);
        Check.due("3 DRAWS of one", seedOf(x), Edge.seedBehind(1, 3));
        x.govern(0, 1, false);
        x.days(1);
        Check.due("and no more", seedOf(x), Edge.seedBehind(1, 3));
    }

    /** "by numbers": the DRAWS of 0 go ahead of those of 7; each says by what the other one has come to. */
    static void peopleByNumbers() {
        for (int seed : SEEDS) {
            int first = Edge.draw(seed, 3) % 100;
            int second = Edge.draw(seed, 6) % 100;
            String text = "person boy age 10 wants 100 stern " + second + ";" + "person girl age 1;".repeat(6)
                    + "person boy age 20 wants 100 stern " + (first + 1) + ";governs 7 0;governs 0 7";
            CribLine x = Check.of(text, "yes 7 if elder < 10");
            x.seed(seed);
            Check.due("0 is told no, 7 yes, SEED " + seed, x.days(1), 1);
            Check.due("the first row is to 0", x.log(1, 2), 0);
            Check.due("AGE of 0", x.person(0, 0), 9);
            Check.due("elder is 9 by then", x.person(7, 0), 28);
            Check.due("6 DRAWS", seedOf(x), Edge.seedBehind(seed, 6));
        }
    }

    /** "SEED .. as an int that goes round; bits 16 to 30": bits 15 and 31 do not count. */
    static void bits16To30() {
        Check.due("DRAWS of SEED 1", Edge.draw(1, 1), 16838);
        Check.due("DRAWS of SEED 0", Edge.draw(0, 1), 0);
        Check.due("bit 31 is not of them", Edge.draw(MIN, 2), Edge.draw(0, 2));
        Check.due("AGES of SEED 0 and of one that differs by bit 31", agesOfTwo(50, 50, MIN, 20), agesOfTwo(50, 50, 0, 20));
        for (int seed : SEEDS) {
            CribLine x = two(50, 50, seed);
            x.days(60);
            Check.due("AGES, SEED " + seed, x.count(7), agesOfTwo(50, 50, seed, 60));
        }
    }

    /** "So many DAYS more (1 to 100)". */
    static void daysOf1To100() {
        CribLine x = two(0, 0, 1);
        x.days(1);
        Check.due("1", x.count(3), 1);
        x.days(100);
        Check.due("101", x.count(3), 101);
        for (int n : Edge.outside(1, 100)) Check.refused(n + " DAYS", Edge.NONE_SUCH, () -> x.days(n));
        Check.due("DAY stays", x.count(3), 101);
    }

    /** "how many no were said in these": not those before, nor a yes. */
    static void daysTellTheNo() {
        CribLine x = two(100, 100, 1);
        x.say(0, 1, false);
        Check.due("2", x.days(2), 2);
        Check.due("3 more", x.days(3), 3);
        x.stern(0, 0);
        Check.due("none", x.days(3), 0);
    }

    /** "DAY is 1 more (9999 at most)". */
    static void dayTo9999() {
        CribLine x = Check.of("day 999;person girl age 40;person boy age 50;governs 0 1");
        for (int i = 0; i < 89; i++) x.days(100);
        x.days(99);
        Check.due("9998", x.count(3), 9998);
        x.days(1);
        Check.due("9999", x.count(3), 9999);
        x.days(1);
        Check.due("9999 at most", x.count(3), 9999);
        x.days(100);
        Check.due("9999 still", x.count(3), 9999);
        x.say(0, 1, true);
        Check.due("the DAY of a row", x.log(0, 0), 9999);
        Check.due("LED", x.led(1, true), 9999);
    }

    /** Behind DAY 9999 one goes on asking and being told. */
    static void wordsBehind9999() {
        CribLine x = Check.of("day 999;person girl age 40 stern 100;person boy age 50;governs 0 1");
        for (int i = 0; i < 91; i++) x.days(100);
        Check.family(x, "person boy age 30 wants 100;governs 0 2");
        Check.due("no", x.days(5), 5);
        Check.due("AGE", x.person(2, 0), 25);
        Check.due("DAY of the row", x.log(0, 0), 9999);
        Check.due("AHEAD", x.ahead(2, 5, false), 20);
        Check.due("TRIAL", x.trial(5, false), 40 + 50 + 20);
    }

    /** The row of a DAY has DAY as it is ahead of the 1 more. */
    static void dayOfARow() {
        CribLine x = two(100, 100, 1);
        x.days(3);
        Check.due("the latest", x.log(0, 0), 2);
        Check.due("the first", x.log(2, 0), 0);
    }

    // ---- Promise 54: AHEAD

    /** "AHEAD by N DAYS .. (0 to 100)". */
    static void aheadOf0To100() {
        CribLine x = two(0, 0, 1);
        Check.due("0", x.ahead(1, 0, false), 50);
        Check.due("1", x.ahead(1, 1, false), 49);
        Check.due("100", x.ahead(1, 100, false), 40);
        Check.due("100 of yes", x.ahead(1, 100, true), 60);
        for (int n : Edge.outside(0, 100)) Check.refused(n + " DAYS", Edge.NONE_SUCH, () -> x.ahead(1, n, true));
        Check.refused("nobody ahead of N that is none", Edge.NOBODY, () -> x.ahead(2, 101, true));
    }

    /** "each PERSON that is GOVERNED is told": WANTS do not count, STERN does not; who is not GOVERNED stays. */
    static void aheadWhateverOneWants() {
        CribLine x = two(0, 0, 1);
        Check.due("a no of STERN 0", x.ahead(1, 10, false), 40);
        CribLine y = two(100, 100, 1);
        Check.due("a yes of STERN 100", y.ahead(1, 10, true), 60);
        Check.due("who is FREE", y.ahead(0, 100, true), 40);
    }

    /** "by the one of the least number who governs it". */
    static void aheadByTheLeastWhoGoverns() {
        CribLine x = Check.of("person boy age 40;" + "person boy age 1;".repeat(6) + "person boy age 1;governs 7 0;governs 5 0;governs 6 0", "no 4 if who < 6");
        Check.due("5", x.ahead(0, 1, false), 35);
        x.govern(5, 0, false);
        Check.due("6", x.ahead(0, 1, false), 39);
    }

    /** "(no DRAWS)"; and nothing stays of days ahead. */
    static void aheadChangesNothing() {
        CribLine x = two(100, 50, 7);
        String state = Edge.state(x);
        x.ahead(1, 100, true);
        x.cradle(false, true);
        x.again(false);
        x.over(1);
        x.mild(60);
        x.trial(100, true);
        x.span(100, true);
        Edge.alike("nothing stays", Edge.state(x), state);
    }

    /** DAY goes on AHEAD, TURNS, too: THE LAW asks for them. */
    static void aheadByTheLaw() {
        CribLine x = Check.of("person girl age 40;person boy age 2;governs 0 1", "no 5 if day > 1;no 20 if turns > 0");
        int[] due = {2, 1, 0, 84, 58, 32, 6, 70};
        for (int n = 0; n < due.length; n++) Check.due("by " + n, x.ahead(1, n, false), due[n]);
    }

    /** AHEAD at DAY 9999: DAY stays there. */
    static void aheadAtTheLastDay() {
        CribLine x = Check.of("day 999;person girl age 40;person boy age 50;governs 0 1");
        for (int i = 0; i < 89; i++) x.days(100);
        x.days(98);
        String nines = "999+999+999+999+999+999+999+999+999+999";
        Check.law(x, "no 5 if day > " + nines + "+8;no 30 if day > " + nines + "+9");
        Check.due("DAY", x.count(3), 9997);
        Check.due("9997 and 9998 take 1 each", x.ahead(1, 2, false), 48);
        Check.due("9999 takes 6", x.ahead(1, 3, false), 42);
        Check.due("and again", x.ahead(1, 4, false), 36);
    }

    // ---- Promise 26: CRADLE

    /** "the first N (0 to 100)": 0, if somebody is there by now. */
    static void cradleNow() {
        CribLine x = Check.of("person girl age 40;person boy age 4;person boy age 3");
        Check.due("by no", x.cradle(false, false), 0);
        Check.due("by yes", x.cradle(true, false), 0);
        Check.due("who (the least)", x.cradle(false, true), 1);
    }

    /** "by which somebody is in the CRIB": RIPE itself is not. */
    static void cradleAtRipe() {
        CribLine x = Check.of("person girl age 40;person boy age 5;governs 0 1");
        Check.due("5 is not below 5", x.cradle(false, false), 1);
        Check.due("by yes round the ring", x.cradle(true, false), 85);
    }

    /** "the first N (.. to 100)": 100 is, 101 is none. */
    static void cradleOf100() {
        CribLine x = Check.of("round 99;person girl age 40;person boy age 97;governs 0 1;ripe 1", "calm if day < 3");
        Check.due("97 and 3 DAYS of calm", x.cradle(false, false), 100);
        Check.due("who", x.cradle(false, true), 1);
        Check.law(x, "calm if day < 4");
        Check.due("101 is none", x.cradle(false, false), -1);
        Check.due("nobody", x.cradle(false, true), -1);
    }

    /** "none": RIPE 0, or nobody GOVERNED. */
    static void cradleOfNone() {
        CribLine x = Check.of("ripe 0;person girl age 40;person boy age 4;governs 0 1");
        Check.due("RIPE 0", x.cradle(false, false), -1);
        Check.due("nobody", x.cradle(true, true), -1);
        CribLine y = Check.of("person girl age 40;person boy age 6");
        Check.due("nobody is told", y.cradle(false, false), -1);
        Check.due("nobody", y.cradle(false, true), -1);
    }

    /** "who (the least)": of several at once, and the first of all by DAYS ahead of a lesser one. */
    static void cradleWho() {
        CribLine x = Check.of("person girl age 40;person boy age 8;person boy age 7;person boy age 7;governs 0 1;governs 0 2;governs 0 3");
        Check.due("N", x.cradle(false, false), 3);
        Check.due("2 and 3 at once", x.cradle(false, true), 2);
        Check.due("7 of 8", Check.of("person boy age 9;".repeat(7) + "person boy age 4").cradle(false, true), 7);
    }

    // ---- Promise 27: AGAIN

    /** "the first N (1 to 100)": not 0; 1, if words take nothing. */
    static void againIn1() {
        CribLine x = Check.of("person girl age 40;person boy age 8;governs 0 1", "calm");
        Check.due("1 by no", x.again(false), 1);
        Check.due("1 by yes", x.again(true), 1);
        Check.due("nobody GOVERNED", Check.of("person girl age 40").again(false), 1);
    }

    /** "(.. to 100)": 100 is, 101 is none. */
    static void againIn100() {
        CribLine x = Check.of("round 99;person girl age 40;person boy age 8;governs 0 1");
        Check.due("99", x.again(false), 99);
        Check.due("99 by yes", x.again(true), 99);
        Check.law(x, "calm if day > 0 and day < 2");
        Check.due("100", x.again(false), 100);
        Check.due("100 by yes", x.again(true), 100);
        Check.law(x, "calm if day > 0 and day < 3");
        Check.due("101 is none", x.again(false), -1);
        Check.due("101 by yes is none", x.again(true), -1);
    }

    /** "all AGES are as now": each of them. */
    static void againOfAll() {
        CribLine x = Check.of("round 12;person girl age 7;person boy age 8;person boy age 9;governs 0 1;governs 1 2", "no 3 if whom > 1;yes 2 if whom < 2");
        Check.due("12 steps of 1, 3 of 4", x.again(false), 12);
        Check.due("4 of 3, 12 of 1", x.again(true), 12);
        x.govern(1, 2, false);
        Check.due("4 of 3", x.again(true), 4);
    }

    /** "all AGES": of 0 alone, of 7 alone. */
    static void againOfTheFirstAndTheLast() {
        CribLine x = Check.of("round 12;" + "person boy age 8;".repeat(7) + "person boy age 8;governs 7 0");
        Check.due("0 alone is told", x.again(false), 12);
        x.govern(7, 0, false);
        x.govern(0, 7, true);
        Check.due("7 alone is told", x.again(true), 12);
    }

    // ---- Promise 28: OVER

    /** "TURNS of it are more than now": to AGE 0 is none yet. */
    static void overTheRing() {
        CribLine x = Check.of("person girl age 40;person boy age 2;person boy age 0;governs 0 1;governs 0 2");
        Check.due("2, 1, 0, 89", x.over(1), 3);
        Check.due("0, 89", x.over(2), 1);
    }

    /** "the first N (0 to 100)": 100 is, 101 is none. */
    static void overIn100() {
        CribLine x = Check.of("round 99;person girl age 40;person boy age 98;governs 0 1", "calm if day < 1");
        Check.due("100", x.over(1), 100);
        Check.law(x, "calm if day < 2");
        Check.due("101 is none", x.over(1), -1);
    }

    /** "none": who is not GOVERNED, a law of calm, TURNS that are 99 already. */
    static void overNever() {
        CribLine x = Check.of("round 2;person girl age 0;person boy age 0;governs 0 1");
        Check.due("who is FREE", x.over(0), -1);
        for (int i = 0; i < 196; i++) x.say(0, 1, false);
        Check.due("98", x.person(1, 1), 98);
        Check.due("from 98 to 99", x.over(1), 1);
        x.say(0, 1, false);
        Check.due("99", x.person(1, 1), 99);
        Check.due("99 at most", x.over(1), -1);
        Check.law(x, "calm");
        Check.due("calm", x.over(1), -1);
    }

    /** From TURNS below 0: more than now is enough. */
    static void overFromBelow0() {
        CribLine x = Check.of("round 2;person girl age 0;person boy age 1;governs 0 1");
        x.say(0, 1, true);
        Check.due("- 1", x.person(1, 1), -1);
        Check.due("0 is more", x.over(1), 1);
    }

    // ---- Promise 40: MILD

    /** "MILD of N DAYS (0 to 60)". */
    static void mildOf0To60() {
        CribLine x = Check.of("person girl age 40;person boy age 64;governs 0 1");
        Check.due("0 DAYS", x.mild(0), 20);
        Check.due("60 DAYS: 20 comes to 4, 19 to 2, 18 to 10 at least", x.mild(60), 18);
        for (int n : Edge.outside(0, 60)) Check.refused(n + " DAYS", Edge.NONE_SUCH, () -> x.mild(n));
    }

    /** 60 DAYS are asked, not 59, not 61. */
    static void mildOnTheLastDay() {
        String law = "calm if day < 59";
        CribLine x = Check.of("round 99;person girl age 40;person boy age 24;governs 0 1", law);
        Check.due("59 DAYS of calm", x.mild(59), 20);
        Check.due("on the 60th from 24 to 4", x.mild(60), 19);
        CribLine y = Check.of("round 99;person girl age 40;person boy age 24;governs 0 1", "calm if day < 60");
        Check.due("60 DAYS of calm", y.mild(60), 20);
    }

    /** "nobody is ever in the CRIB": not in between either. */
    static void mildInBetween() {
        CribLine x = Check.of("person girl age 40;person boy age 20;governs 0 1");
        Check.due("1 DAY: 20 to 5", x.mild(1), 15);
        Check.due("2 DAYS: 20 by 20 lies there in between", x.mild(2), 15);
    }

    /** "(now not asked)". */
    static void mildNowNotAsked() {
        CribLine x = Check.of("person girl age 40;person boy age 4;governs 0 1");
        Check.due("from 4 to 74", x.mild(1), 20);
        Check.due("0 DAYS", x.mild(0), 20);
    }

    /** "the greatest STEP (0 to 20)": 0 may be it; "none". */
    static void mildOf0AndNone() {
        CribLine x = Check.of("round 99;ripe 98;person girl age 98;person boy age 98;governs 0 1");
        Check.due("any STEP but 0 leads below 98", x.mild(1), 0);
        Check.law(x, "no 1");
        Check.due("none", x.mild(1), -1);
        CribLine y = Check.of("person girl age 4");
        Check.due("who is FREE lies there on DAY 1", y.mild(1), -1);
        Check.due("but is not asked of 0 DAYS", y.mild(0), 20);
    }

    /** STEP by ROUND: 20 of a ring of 20 takes nothing. */
    static void mildByRound() {
        CribLine x = Check.of("round 20;person girl age 19;person boy age 5;governs 0 1");
        Check.due("20 is 0", x.mild(60), 20);
        Check.due("STEP stays", x.count(6), 1);
    }

    // ---- Promise 47: ODDS

    /** "N DAYS (0 to 3) and K (0 to 3)". */
    static void oddsOf0To3() {
        CribLine x = two(100, 100, 1);
        for (int n = 0; n <= 3; n++) {
            for (int k = 0; k <= 3; k++) Check.due("N " + n + ", K " + k, x.odds(1, n, k), k <= n ? 10000 : 0);
        }
        for (int n : Edge.outside(0, 3)) {
            Check.refused("N " + n, Edge.NONE_SUCH, () -> x.odds(1, n, 0));
            Check.refused("K " + n, Edge.NONE_SUCH, () -> x.odds(1, 0, n));
        }
        Check.refused("nobody ahead of N that is none", Edge.NOBODY, () -> x.odds(2, 4, 4));
    }

    /** "0, if nobody governs it": of K 0, too; but N and K are looked at. */
    static void oddsOfWhoIsFree() {
        CribLine x = two(100, 100, 1);
        for (int n = 0; n <= 3; n++) Check.due("N " + n, x.odds(0, n, 0), 0);
        Check.refused("N 4", Edge.NONE_SUCH, () -> x.odds(0, 4, 0));
    }

    /** WANTS 0 or STERN 0: never; on none of them at least always. */
    static void oddsOfNever() {
        for (CribLine x : new CribLine[] {two(0, 100, 1), two(100, 0, 1)}) {
            Check.due("K 0", x.odds(1, 3, 0), 10000);
            for (int k = 1; k <= 3; k++) Check.due("K " + k, x.odds(1, 3, k), 0);
        }
    }

    /** "in 10000, rounded down". */
    static void oddsRoundedDown() {
        CribLine x = two(1, 1, 1);
        Check.due("0.0001", x.odds(1, 1, 1), 1);
        Check.due("0.00019999", x.odds(1, 2, 1), 1);
        Check.due("0.00000001", x.odds(1, 2, 2), 0);
        CribLine y = two(99, 99, 1);
        Check.due("0.9801", y.odds(1, 1, 1), 9801);
        Check.due("0.941480149401", y.odds(1, 3, 3), 9414);
        Check.due("1 - 0.0199 x 0.0199 x 0.0199", y.odds(1, 3, 1), 9999);
        Check.due("0.99882..", y.odds(1, 3, 2), 9988);
    }

    /** "of those who govern it each alike": of seven. */
    static void oddsOfSeven() {
        StringBuilder text = new StringBuilder("person boy age 1 wants 99");
        for (int stern : new int[] {0, 100, 50, 33, 67, 99, 1}) text.append(";person girl age 1 stern ").append(stern);
        CribLine x = Check.of(text.toString());
        for (int i = 1; i <= 7; i++) x.govern(i, 0, true);
        Check.due("0.495", x.odds(0, 1, 1), 4950);
        Check.due("0.49250025", x.odds(0, 3, 2), 4925);
        Check.due("0.121287375", x.odds(0, 3, 3), 1212);
        Check.due("all of 3", x.odds(0, 3, 0), 10000);
    }

    // ---- Promise 55: TRIAL

    /** "TRIAL of N DAYS (0 to 100)". */
    static void trialOf0To100() {
        CribLine x = two(100, 100, 1);
        Check.due("0", x.trial(0, false), 90);
        Check.due("1", x.trial(1, false), 89);
        Check.due("45 to AGE 5", x.trial(45, true), 0);
        Check.due("46 to AGE 4", x.trial(46, true), 2);
        Check.due("100", x.trial(100, false), 80);
        for (int n : Edge.outside(0, 100)) {
            Check.refused(n + " DAYS", Edge.NONE_SUCH, () -> x.trial(n, false));
            Check.refused(n + " DAYS, who", Edge.NONE_SUCH, () -> x.trial(n, true));
        }
    }

    /** "from now (draws, too; nothing stays)": by SEED as it is, and as the DAYS themselves come to be. */
    static void trialIsAsTheDays() {
        for (int seed : SEEDS) {
            CribLine x = two(50, 50, seed);
            int ages = x.trial(100, false);
            int crib = x.trial(100, true);
            Check.due("SEED stays", seedOf(x), seed);
            x.days(100);
            Check.due("AGES, SEED " + seed, x.count(7), ages);
            Check.due("CRIB, SEED " + seed, x.crib(), crib);
            Check.due("AGES by DRAWS", ages, agesOfTwo(50, 50, seed, 100));
        }
    }

    // ---- Promise 56: SPAN

    /** "SPAN of N DAYS (0 to 100)". */
    static void spanOf0To100() {
        CribLine x = two(100, 100, 9);
        Check.due("0, the least", x.span(0, false), 90);
        Check.due("0, the greatest", x.span(0, true), 90);
        Check.due("100", x.span(100, false), 80);
        for (int n : Edge.outside(0, 100)) {
            Check.refused(n + " DAYS, the least", Edge.NONE_SUCH, () -> x.span(n, false));
            Check.refused(n + " DAYS, the greatest", Edge.NONE_SUCH, () -> x.span(n, true));
        }
    }

    private static void spanOf(int wants, int stern, int n, boolean most, int seed, int due) {
        Check.due("by DRAWS of SEED " + seed, agesOfTwo(wants, stern, seed, n), due);
        Check.due("SPAN of " + n, two(wants, stern, 99).span(n, most), due);
    }

    /** "from SEED 1, 2, .. 6": 1 is of them, 0 is not. */
    static void spanFromSeed1() {
        spanOf(50, 90, 4, false, 1, 87);
        Check.due("SEED 0 would be less", agesOfTwo(50, 90, 0, 4), 86);
        spanOf(60, 0, 5, true, 1, 94);
        Check.due("SEED 0 would be more", agesOfTwo(60, 0, 0, 5), 95);
    }

    /** "from SEED 1, 2, .. 6": 6 is of them, 7 is not. */
    static void spanToSeed6() {
        spanOf(50, 80, 7, false, 6, 87);
        Check.due("SEED 7 would be less", agesOfTwo(50, 80, 7, 7), 86);
        spanOf(80, 40, 6, true, 6, 94);
        Check.due("SEED 7 would be more", agesOfTwo(80, 40, 7, 6), 96);
    }

    public static void main(String[] args) throws ReflectiveOperationException {
        Edge.run(EdgeDaysTest.class);
    }
}
