/** Promises 19, 26 to 28, 40, 47, 54 to 56: DAYS and what is asked of days ahead. */
public final class DaysTest {
    private static final Class<IllegalArgumentException> NONE_SUCH = IllegalArgumentException.class;
    private static final Class<IndexOutOfBoundsException> NOBODY = IndexOutOfBoundsException.class;

    // From SEED 1 the DRAWS are 16838 5758 10113 17515 31051 5627 23010 7419 16212 4086.
    private static void draws() { // Promise 19
        String family = "person girl age 30 stern 14;person boy age 20 wants 39;person boy age 50 stern 0;governs 0 1;governs 2 1";
        CribLine x = Check.of(family);
        Check.due("38 is below 39, 5758 tells 0, 13 is below 14", x.days(1), 1);
        Check.due("who said it", x.log(0, 1), 0);
        Check.due("AGE", x.person(1, 0), 19);
        Check.due("15 is below 39, 31051 tells 2, 27 is not below 0", x.days(1), 0);
        Check.due("who said it", x.log(0, 1), 2);
        Check.due("the DAY of it", x.log(0, 0), 1);
        Check.due("a yes", x.log(0, 3), 1);
        Check.due("AGE", x.person(1, 0), 20);
        Check.due("DAY", x.count(3), 2);
        Check.due("one act each call", x.count(12), 2);
        x.stern(0, 13);
        x.seed(1);
        Check.due("13 is not below 13", x.days(1), 0);
        CribLine y = Check.of(family.replace("39", "38"));
        Check.due("38 is not below 38: one DRAW", y.days(1), 0);
        Check.due("no row", y.count(11), 0);
        Check.due("58, 13: 17515 tells 2, 51 is not below 0", y.days(2), 0);
        Check.due("rows", y.count(11), 1);
        Check.due("who said it", y.log(0, 1), 2);
        Check.due("the DAY of it", y.log(0, 0), 2);
        Check.refused("0 DAYS", NONE_SUCH, () -> y.days(0));
        Check.refused("101 DAYS", NONE_SUCH, () -> y.days(101));
        Check.due("DAY", y.count(3), 3);
        CribLine z = new CribLine();
        Check.due("DAYS of nobody", z.days(100), 0);
        Check.due("DAY", z.count(3), 100);
        Check.due("no DRAW", z.seed(1), 1);
    }

    private static void trials() { // Promises 55, 56
        CribLine x = Check.of("ripe 20;person girl age 30 stern 14;person boy age 20 wants 39;person boy age 50 stern 0;governs 0 1;governs 2 1");
        Check.due("AGES now", x.trial(0, false), 100);
        Check.due("AGES", x.trial(1, false), 99);
        Check.due("CRIB", x.trial(1, true), 2);
        Check.due("AGES of 2", x.trial(2, false), 100);
        Check.due("CRIB of 2", x.trial(2, true), 0);
        Check.due("nothing stays", x.seed(1), 1);
        Check.due("nor rows", x.count(11), 0);
        x.seed(123);
        Check.due("span of 0, the least", x.span(0, false), 100);
        // of SEED 1 the one no of a single DAY; the first DRAWS of 2 to 6 modulo 100: 8, 46, 85, 23, 61
        Check.due("span, the least", x.span(1, false), 99);
        int least = 1000;
        int most = 0;
        for (int seed = 1; seed <= 6; seed++) {
            x.seed(seed);
            least = Math.min(least, x.trial(40, false));
            most = Math.max(most, x.trial(40, false));
        }
        Check.due("span of 40, the least", x.span(40, false), least);
        Check.due("span of 40, the greatest", x.span(40, true), most);
        Check.due("SEED stays", x.seed(1), 6);
        Check.refused("trial of 101", NONE_SUCH, () -> x.trial(101, true));
        Check.refused("trial of -1", NONE_SUCH, () -> x.trial(-1, true));
        Check.refused("span of 101", NONE_SUCH, () -> x.span(101, true));
        Check.refused("span of -1", NONE_SUCH, () -> x.span(-1, false));
        Check.due("of nobody", new CribLine().span(5, true), 0);
    }

    private static void ahead() { // Promise 54
        CribLine x = Check.of("person girl age 3;person boy age 20;person boy age 50;governs 1 0;governs 2 0;governs 0 1", "no 1 if day > 1;no 10 if who > 1");
        Check.due("now", x.ahead(0, 0, false), 3);
        Check.due("the least who governs, two DAYS", x.ahead(0, 2, false), 1);
        Check.due("DAY goes on", x.ahead(0, 4, false), 87);
        Check.due("yes", x.ahead(1, 100, true), 30);
        Check.due("nobody governs it", x.ahead(2, 100, true), 50);
        Check.due("nothing stays", x.person(0, 0), 3);
        Check.refused("101", NONE_SUCH, () -> x.ahead(0, 101, true));
        Check.refused("-1", NONE_SUCH, () -> x.ahead(0, -1, true));
        Check.refused("nobody", NOBODY, () -> x.ahead(3, 101, true));
        // by numbers: 1 is told when 0 has been told already
        CribLine y = Check.of("person girl age 3;person boy age 20;governs 1 0;governs 0 1", "no 7 if elder < 3");
        Check.due("elder as it is by then", y.ahead(1, 1, false), 12);
    }

    private static void cradles() { // Promises 26, 27, 28
        CribLine x = Check.of("ripe 2;person girl age 40;person girl age 8;person boy age 4;governs 0 1;governs 0 2");
        Check.due("by no", x.cradle(false, false), 3);
        Check.due("who", x.cradle(false, true), 2);
        Check.due("by yes", x.cradle(true, false), 82);
        Check.due("who", x.cradle(true, true), 1);
        Check.due("again", x.again(false), 90);
        Check.due("over", x.over(2), 5);
        Check.due("over of who is not governed", x.over(0), -1);
        Check.refused("over of nobody", NOBODY, () -> x.over(3));
        Check.family(x, "ripe 9");
        Check.due("now", x.cradle(true, false), 0);
        Check.due("who now", x.cradle(true, true), 1);
        CribLine y = Check.of("round 99;person girl age 40;person girl age 98;governs 0 1;step 1;ripe 0");
        Check.due("nobody", y.cradle(false, false), -1);
        Check.due("nobody", y.cradle(false, true), -1);
        Check.due("99 DAYS", y.again(true), 99);
        Check.due("over at 99", y.over(1), 99);
        Check.law(y, "no 1");
        Check.due("over in 50", y.over(1), 50);
        Check.due("2 each DAY", y.again(false), 99);
        Check.law(y, "calm");
        Check.due("at once", y.again(false), 1);
        Check.due("never over", y.over(1), -1);
        Check.law(y, "calm if day > 0");
        Check.due("never again", y.again(false), -1);
        CribLine z = new CribLine();
        Check.due("nobody lies there", z.cradle(false, false), -1);
        Check.due("all AGES of nobody", z.again(true), 1);
    }

    private static void hundredth() { // Promises 26, 27, 28: 100 DAYS, and no more
        CribLine x = Check.of("person girl age 40;person girl age 5;governs 0 1", "calm if day < 99");
        Check.due("CRADLE in 100", x.cradle(false, false), 100);
        Check.due("who", x.cradle(false, true), 1);
        Check.due("AHEAD by 100", x.ahead(1, 100, false), 4);
        Check.law(x, "calm if day < 100");
        Check.due("not in 101", x.cradle(false, false), -1);
        Check.law(x, "calm if day > 0 and day < 99;no 60 if day > 98;no 28 if day > 98");
        Check.family(x, "ripe 0");
        Check.due("AGAIN in 100", x.again(false), 100);
        Check.law(x, "calm if day > 0 and day < 100;no 60 if day > 98;no 28 if day > 98");
        Check.due("not in 101", x.again(false), -1);
        CribLine y = Check.of("person girl age 40;person girl age 0;governs 0 1", "calm if day < 99");
        Check.due("OVER in 100", y.over(1), 100);
        Check.law(y, "calm if day < 100");
        Check.due("not in 101", y.over(1), -1);
    }

    private static void mild() { // Promise 40
        CribLine x = Check.of("person girl age 40;person girl age 30;governs 0 1");
        Check.due("no DAY", x.mild(0), 20);
        Check.due("a DAY", x.mild(1), 20);
        Check.due("2 DAYS: 10 left by 20, not below 5", x.mild(2), 20);
        Check.due("5 DAYS: 10, 80, 60, 40, 20", x.mild(5), 20);
        Check.due("6 DAYS: 20 comes to 0; 19 by 11, 82, 63, 44, 25 to 6", x.mild(6), 19);
        Check.due("60 DAYS: 19 comes to 1; 18 by 12, 84, 66, 48 to 30", x.mild(60), 18);
        Check.refused("61", NONE_SUCH, () -> x.mild(61));
        Check.refused("-1", NONE_SUCH, () -> x.mild(-1));
        Check.due("STEP stays", x.count(6), 1);
        Check.family(x, "person boy age 4");
        Check.due("now not asked", x.mild(0), 20);
        Check.due("none", x.mild(1), -1);
        Check.due("of nobody", new CribLine().mild(60), 20);
    }

    private static void odds() { // Promise 47
        CribLine x = Check.of("person girl age 40 stern 50;person girl age 30 stern 0;person boy age 1 wants 33;governs 0 2;governs 1 2;person boy age 1 wants 100;governs 0 3");
        Check.due("each alike", x.odds(2, 1, 1), 825);
        Check.due("at least one of two", x.odds(2, 2, 1), 1581); // 1 - 0.9175 x 0.9175 is 0.15819375
        Check.due("two of two", x.odds(2, 2, 2), 68); // 0.00680625
        Check.due("two of three", x.odds(3, 3, 2), 5000);
        Check.due("three of three", x.odds(3, 3, 3), 1250);
        Check.due("K above N", x.odds(3, 2, 3), 0);
        Check.due("none of none", x.odds(3, 0, 0), 10000);
        Check.due("nobody governs it", x.odds(0, 0, 0), 0);
        Check.refused("N 4", NONE_SUCH, () -> x.odds(0, 4, 0));
        Check.refused("N -1", NONE_SUCH, () -> x.odds(0, -1, 0));
        Check.refused("K 4", NONE_SUCH, () -> x.odds(0, 0, 4));
        Check.refused("K -1", NONE_SUCH, () -> x.odds(0, 0, -1));
        Check.refused("nobody", NOBODY, () -> x.odds(4, 4, 4));
    }

    public static void main(String[] args) {
        draws();
        trials();
        ahead();
        cradles();
        hundredth();
        mild();
        odds();
        Check.close("DaysTest");
    }
}
