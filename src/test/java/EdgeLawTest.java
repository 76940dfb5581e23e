/** Boundary cases of THE LAW (promise 5) and of what a word WEIGHS by it (promise 9). Each method is a test of one sentence. */
final class EdgeLawTest {
    private static final String TWO = "person girl age 40;person boy age 30;";

    /** What a no of 0 to 1 WEIGHS by a law whose one LINE tells 7 more; STEP is 1. */
    private static boolean holds(CribLine x, int who, int whom, String condition) {
        Check.law(x, "no 7 if " + condition);
        return x.weighs(who, whom, false) == 8;
    }

    private static void holds(String condition, boolean due) {
        Check.due("if " + condition, holds(Check.of(TWO + "step 1"), 0, 1, condition), due);
    }

    // ---- how many LINES, and numbers

    /** "LINE { ; LINE }, at most 12". */
    static void twelveLines() {
        String eleven = "no 1;".repeat(11);
        Edge.rightLaw(eleven + "calm", 12);
        Edge.wrongLaw(eleven + "calm;^no 1");
        Edge.wrongLaw(eleven + "calm ; ^yes 1");
        Edge.wrongLaw(eleven + "calm;^so 1");
        Edge.wrongLaw(eleven + "calm;^");
        Edge.wrongLaw(eleven + "calm;^;");
    }

    /** All twelve LINES count. */
    static void twelveLinesWeigh() {
        CribLine x = Check.of(TWO + "step 2");
        Check.law(x, "no 1;".repeat(11) + "no 5");
        Check.due("2 and 16", x.weighs(0, 1, false), 18);
        Check.law(x, "no 5;" + "no 1;".repeat(10) + "calm if wed");
        Check.due("2 and 15", x.weighs(0, 1, false), 17);
    }

    /** "(N 0 to 60)", of a no and of a yes. */
    static void amounts() {
        Edge.rightLaw("no 0", 1);
        Edge.rightLaw("no 60", 1);
        Edge.wrongLaw("no ^61");
        Edge.wrongLaw("no ^061");
        Edge.rightLaw("yes 0", 1);
        Edge.rightLaw("yes 060", 1);
        Edge.wrongLaw("yes ^61");
        Edge.wrongLaw("yes ^999");
        CribLine x = Check.of(TWO + "step 0", "no 60;yes 0");
        Check.due("60", x.weighs(0, 1, false), 60);
        Check.due("0", x.weighs(0, 1, true), 0);
    }

    /** "All numbers are of 1 to 3 digits". */
    static void digits() {
        Edge.rightLaw("no 7 if 1 < 02 and 999 > 003", 1);
        Edge.wrongLaw("no ^0007");
        Edge.wrongLaw("yes ^0007");
        Edge.wrongLaw("calm if ^1000 > 1");
        Edge.wrongLaw("calm if 1 < ^0002");
        Edge.wrongLaw("calm if 1 + ^0002 > 1");
        Edge.wrongLaw("calm if 1 < 1 + ^4294967298");
    }

    /** A NUMBER of a SUM may be 0 to 999. */
    static void numbersOfASum() {
        holds("999 > 998", true);
        holds("998 > 999", false);
        holds("000 < 001", true);
        holds("999 + 999 > 999 + 998", true);
        holds("0 + 0 < 1", true);
    }

    /** "a text, in place of the one before". */
    static void inPlaceOfTheOneBefore() {
        CribLine x = Check.of(TWO + "step 1", "no 5;yes 6;no 7");
        Check.due("LINES", x.count(2), 3);
        Check.law(x, "no 2");
        Check.due("LINES", x.count(2), 1);
        Check.due("a no", x.weighs(0, 1, false), 3);
        Check.due("a yes", x.weighs(0, 1, true), 1);
    }

    /** "A text that is empty, or blanks alone, has no LINE": THE LAW is there, of 0 LINES. */
    static void emptyLaw() {
        CribLine x = Check.of(TWO + "step 3", "no 5;yes 6");
        Check.due("empty", Check.law(x, ""), 0);
        Check.due("LINES", x.count(2), 0);
        Check.due("a no", x.weighs(0, 1, false), 3);
        Check.law(x, "yes 6");
        Check.due("blanks", Check.law(x, "     "), 0);
        Check.due("a yes", x.weighs(0, 1, true), 3);
        Edge.wrongLaw("^;");
        Edge.wrongLaw("no 1;^;no 2");
        Edge.wrongLaw(" ^; no 1");
    }

    /** "NONE without one" of promise 63, and no LINE holds ahead of any law. */
    static void noLaw() {
        CribLine x = Check.of(TWO + "step 3");
        Check.due("LINES", x.count(2), -1);
        Check.due("a no", x.weighs(0, 1, false), 3);
        Check.due("a yes", x.weighs(0, 1, true), 3);
    }

    /** "Of a wrong text nothing stays": the law before does. */
    static void wrongLawChangesNothing() {
        for (String text : new String[] {"yes 9;no 8;x", "x", "calm;", "no 61", "calm if"}) {
            int fault = text.equals("yes 9;no 8;x") ? 11 : text.equals("x") ? 0 : text.equals("no 61") ? 3 : text.length();
            Edge.refusedText("law '" + text + "'", Edge.NONE_SUCH, fault, () -> {
                CribLine x = Check.of(TWO + "step 3;governs 0 1", "no 5;yes 6");
                x.image();
                x.say(0, 1, true);
                Check.tape(x, text);
                return x;
            }, CribLine::law);
        }
        CribLine y = Check.of(TWO + "step 3");
        Edge.wrongLaw(y, "no 1;^x");
        Check.due("nor does a first one come to be", y.count(2), -1);
    }

    // ---- LINES and conditions

    /** "no N [ if C ]": a LINE without a condition always holds, for its own word alone. */
    static void linesWithoutACondition() {
        CribLine x = Check.of(TWO + "step 1", "no 5");
        Check.due("no", x.weighs(0, 1, false), 6);
        Check.due("yes", x.weighs(0, 1, true), 1);
        Check.law(x, "yes 5");
        Check.due("no", x.weighs(0, 1, false), 1);
        Check.due("yes", x.weighs(0, 1, true), 6);
    }

    /** "0 of both, if some calm LINE holds": wherever it stands, of a no and of a yes. */
    static void calmWhereverItStands() {
        CribLine x = Check.of(TWO + "step 9");
        for (String law : new String[] {"calm", "calm;no 5;yes 5", "no 5;calm;yes 5", "no 5;yes 5;calm", "calm if wed;calm", "calm if 1<2;calm if wed"}) {
            Check.law(x, law);
            Check.due("no by " + law, x.weighs(0, 1, false), 0);
            Check.due("yes by " + law, x.weighs(0, 1, true), 0);
        }
        Check.law(x, "calm if wed;no 5;calm if 2<1");
        Check.due("no calm LINE holds", x.weighs(0, 1, false), 14);
    }

    /** "both by ROUND: what is left of the sum". */
    static void byRound() {
        CribLine x = Check.of(TWO + "step 1");
        Check.law(x, "no 60;no 28");
        Check.due("89", x.weighs(0, 1, false), 89);
        Check.law(x, "no 60;no 29");
        Check.due("90", x.weighs(0, 1, false), 0);
        Check.law(x, "yes 60;yes 30");
        Check.due("91", x.weighs(0, 1, true), 1);
        Check.law(x, "no 60;".repeat(11) + "no 60");
        Check.due("721 is 8 times 90 and 1", x.weighs(0, 1, false), 1);
    }

    /** STEP alone is by ROUND, too. */
    static void stepByRound() {
        CribLine x = Check.of("round 2;person boy age 0;person boy age 1;step 1");
        Check.due("1", x.weighs(0, 1, true), 1);
        Check.family(x, "step 2");
        Check.due("2", x.weighs(0, 1, true), 0);
        Check.family(x, "step 19");
        Check.due("19", x.weighs(0, 1, false), 1);
        Check.family(x, "round 20;step 20");
        Check.due("20", x.weighs(0, 1, false), 0);
        Check.family(x, "round 21");
        Check.due("20 of 21", x.weighs(0, 1, false), 20);
        Check.family(x, "step 0");
        Check.due("0", x.weighs(0, 1, false), 0);
    }

    /** "SUM < SUM | SUM > SUM": as much is neither. */
    static void asMuch() {
        holds("5 < 5", false);
        holds("5 > 5", false);
        holds("4 < 5", true);
        holds("5 > 4", true);
        holds("5 < 4", false);
        holds("4 > 5", false);
        holds("age < 30", false);
        holds("age > 30", false);
        holds("age < 31", true);
        holds("age > 29", true);
    }

    /** "who: the number of the one who says it; whom: that of the other one": 0 and 7. */
    static void whoAndWhom() {
        CribLine x = Check.of("person boy age 1;".repeat(7) + "person boy age 7");
        Check.due("who 7", holds(x, 7, 0, "who > 6 and who < 8"), true);
        Check.due("whom 0", holds(x, 7, 0, "whom < 1"), true);
        Check.due("who 0", holds(x, 0, 7, "who < 1"), true);
        Check.due("whom 7", holds(x, 0, 7, "whom > 6 and whom < 8"), true);
    }

    /** "age .. of that one; elder: AGE of the one who says it": 0 and ROUND less 1. */
    static void ageAndElder() {
        CribLine x = Check.of("round 99;person boy age 0;person boy age 98");
        Check.due("age 98", holds(x, 0, 1, "age > 97 and age < 99"), true);
        Check.due("elder 0", holds(x, 0, 1, "elder < 1"), true);
        Check.due("age 0", holds(x, 1, 0, "age < 1"), true);
        Check.due("elder 98", holds(x, 1, 0, "elder > 97 and elder < 99"), true);
    }

    /** "turns (less than 0: 0) .. of that one". */
    static void turnsBelow0() {
        CribLine x = Check.of("person boy age 89;person boy age 0;governs 0 1;governs 1 0");
        Check.due("TURNS 0", holds(x, 1, 0, "turns < 1"), true);
        x.say(1, 0, true);
        Check.due("TURNS", x.person(0, 1), -1);
        Check.due("- 1 counts for 0", holds(x, 1, 0, "turns < 1"), true);
        Check.due("- 1 and 1 are 1", holds(x, 1, 0, "turns + 1 > 0"), true);
        Check.due("- 1 is not below 0", holds(x, 1, 0, "turns < 0"), false);
        Check.law(x, "");
        x.say(0, 1, false);
        Check.due("TURNS", x.person(1, 1), 1);
        Check.due("1 counts for 1", holds(x, 0, 1, "turns > 0 and turns < 2"), true);
        Check.due("they are that one's", holds(x, 1, 0, "turns > 0"), false);
    }

    /** turns at their ends: 99 and - 99. */
    static void turnsAtTheirEnds() {
        CribLine x = Check.of("round 2;person boy age 0;person boy age 0;governs 0 1;governs 1 0");
        for (int i = 0; i < 200; i++) {
            x.say(0, 1, false);
            x.say(1, 0, true);
        }
        Check.due("TURNS", x.person(1, 1), 99);
        Check.due("TURNS", x.person(0, 1), -99);
        Check.law(x, "no 1 if turns > 98 and turns < 100");
        Check.due("99: STEP 1 and 1 by 2", x.weighs(0, 1, false), 0);
        Check.due("- 99", x.weighs(1, 0, false), 1);
        Check.law(x, "no 1 if turns < 1 and turns + 1 > 0");
        Check.due("- 99 counts for 0", x.weighs(1, 0, false), 0);
    }

    /** "day": from 0 to 9999. */
    static void dayAtItsEnds() {
        CribLine x = Check.of(TWO + "step 1");
        Check.due("0", holds(x, 0, 1, "day < 1"), true);
        Check.family(x, "day 999");
        Check.due("999", holds(x, 0, 1, "day > 998 and day < 999 + 1"), true);
        for (int i = 0; i < 91; i++) x.days(100);
        String nines = "999+999+999+999+999+999+999+999+999+999";
        Check.due("9999 is above 9998", holds(x, 0, 1, "day > " + nines + "+8"), true);
        Check.due("9999 is below 10000", holds(x, 0, 1, "day < " + nines + "+10"), true);
        Check.due("9999 is not above itself", holds(x, 0, 1, "day > " + nines + "+9"), false);
    }

    /** "wed: that one has a SPOUSE": whoever it is, and it alone. */
    static void wed() {
        CribLine x = Check.of(TWO + "person boy age 3;wed 0 1");
        Check.due("of 0 to 1", holds(x, 0, 1, "wed"), true);
        Check.due("of 2 to 0, whose SPOUSE is 1", holds(x, 2, 0, "wed"), true);
        Check.due("of 0 to 2", holds(x, 0, 2, "wed"), false);
        x.part(0);
        Check.due("behind a parting", holds(x, 2, 0, "wed"), false);
    }

    /** "kin: the one who says it is its PARENT": not its child, not its PARENT'S PARENT; of none nobody. */
    static void kin() {
        CribLine x = Check.of("person girl age 40;person boy age 30 of 0;person boy age 20 of 1");
        Check.due("PARENT", holds(x, 0, 1, "kin"), true);
        Check.due("PARENT", holds(x, 1, 2, "kin"), true);
        Check.due("child", holds(x, 1, 0, "kin"), false);
        Check.due("PARENT'S PARENT", holds(x, 0, 2, "kin"), false);
        Check.due("of one without a PARENT", holds(x, 2, 0, "kin"), false);
    }

    /** "crib: that one is in the CRIB": AGE below RIPE. */
    static void crib() {
        CribLine x = Check.of("person boy age 4;person boy age 5");
        Check.due("4", holds(x, 1, 0, "crib"), true);
        Check.due("5", holds(x, 0, 1, "crib"), false);
        Check.family(x, "ripe 6");
        Check.due("5 below 6", holds(x, 0, 1, "crib"), true);
        Check.family(x, "ripe 0");
        Check.due("RIPE 0", holds(x, 1, 0, "crib"), false);
    }

    /** wed, kin and crib count like any other ATOM behind not, and beside and, or: by 1 and by 0. */
    static void wordsAsAtoms() {
        CribLine x = Check.of("person girl age 40;person boy age 3 of 0;person girl age 41;person boy age 30;wed 1 2");
        for (String atom : new String[] {"wed", "kin", "crib"}) {
            // 0 to 1 all three hold, 1 to 3 none of them
            Check.due(atom, holds(x, 0, 1, atom), true);
            Check.due("not " + atom, holds(x, 0, 1, "not " + atom), false);
            Check.due("not not " + atom, holds(x, 0, 1, "not not " + atom), true);
            Check.due(atom + " and more", holds(x, 0, 1, atom + " and 1<2"), true);
            Check.due("more and " + atom, holds(x, 0, 1, "1<2 and " + atom), true);
            Check.due(atom + " and less", holds(x, 0, 1, atom + " and 2<1"), false);
            Check.due(atom + " or less", holds(x, 0, 1, "(" + atom + " or 2<1) and 1<2"), true);
            Check.due("no " + atom, holds(x, 1, 3, atom), false);
            Check.due("no, not " + atom, holds(x, 1, 3, "not " + atom), true);
            Check.due("no, not not " + atom, holds(x, 1, 3, "not not " + atom), false);
            Check.due("no " + atom + " and more", holds(x, 1, 3, atom + " and 1<2"), false);
            Check.due("no " + atom + " or more", holds(x, 1, 3, atom + " or 1<2"), true);
            Check.due("no " + atom + " or less", holds(x, 1, 3, atom + " or 2<1"), false);
        }
        Check.due("all three", holds(x, 0, 1, "wed and kin and crib"), true);
        Check.due("not all three", holds(x, 0, 1, "not (wed and kin and crib)"), false);
        Check.due("none of three", holds(x, 1, 3, "wed or kin or crib"), false);
    }

    /** "C: ALL { or ALL }; ALL: ATOM { and ATOM }": and joins ahead of or. */
    static void andAheadOfOr() {
        String t = "1<2", f = "2<1";
        for (int bits = 0; bits < 8; bits++) {
            boolean a = (bits & 1) == 1, b = (bits & 2) == 2, c = (bits & 4) == 4;
            String p = a ? t : f, q = b ? t : f, r = c ? t : f;
            holds(p + " or " + q + " and " + r, a || b && c);
            holds(p + " and " + q + " or " + r, a && b || c);
            holds("(" + p + " or " + q + ") and " + r, (a || b) && c);
            holds(p + " and (" + q + " or " + r + ")", a && (b || c));
            holds("not " + p + " and " + q, !a && b);
            holds("not " + p + " or " + q, !a || b);
            holds("not (" + p + " and " + q + ") or " + r, !(a && b) || c);
            holds("not not " + p + " and not " + r, a && !c);
        }
    }

    // ---- how deep

    /** "( and not within one another at most 6 deep": of (. */
    static void sixParentheses() {
        holds("((((((1<2))))))", true);
        Edge.wrongLaw("calm if ((((((^(wed)))))))");
        Edge.wrongLaw("calm if ((((((^(");
        Edge.wrongLaw("calm if wed or ((((((^(wed)))))))");
    }

    /** "at most 6 deep": of not. */
    static void sixNots() {
        holds("not not not not not not 1<2", true);
        holds("not not not not not 1<2", false);
        Edge.wrongLaw("calm if not not not not not not ^not wed");
        Edge.wrongLaw("calm if wed and not not not not not not ^not wed");
    }

    /** "( and not within one another": both count together. */
    static void parenthesesAndNots() {
        holds("not (not (not (2<1)))", true);
        Edge.wrongLaw("calm if not (not (not (^(wed))))");
        Edge.wrongLaw("calm if not (not (not (^not wed)))");
        holds("(not (not (not 2<1)))", true);
        Edge.wrongLaw("calm if (not (not (not ^(wed))))");
        Edge.wrongLaw("calm if (not (not (not ^not wed)))");
        Edge.wrongLaw("calm if not not not (((^(wed))))");
    }

    /** "within one another": what is closed counts no more. */
    static void depthGoesBack() {
        holds("((((((1<2)))))) and ((((((1<2))))))", true);
        holds("not not not not not not 1<2 and not not not not not not 1<2", true);
        holds("(((((1<2) and (1<2)) and (1<2)) and (1<2)) and (1<2)) and not not not not not not 1<2", true);
        holds("(((((not 2<1 and not 2<1 and (1<2)))))) and (1<2)", true);
        Edge.wrongLaw("calm if (((((not wed and not ^not wed)))))");
        Edge.wrongLaw("calm if ((((((wed)) or ((^(wed)))))))");
        holds("((((((1<2 or 2<1) and 1<2)))))", true);
    }

    // ---- where a law is wrong

    /** The first word of a LINE is no, yes or calm. */
    static void firstWords() {
        for (String s : new String[] {"if", "nos 1", "noyes 1", "not wed", "wed", "1", "(", "person boy age 1", "step 1", "No 1", "<"}) {
            Edge.wrongLaw("^" + s);
            Edge.wrongLaw("no 1;^" + s);
        }
    }

    /** A no and a yes have a number, a calm has none. */
    static void numbersOfLines() {
        Edge.wrongLaw("no ^if wed");
        Edge.wrongLaw("yes ^;");
        Edge.wrongLaw("no ^no 1");
        Edge.wrongLaw("no 1 ^2");
        Edge.wrongLaw("calm ^1");
        Edge.wrongLaw("calm ^wed");
        Edge.wrongLaw("no 1 ^wed");
        Edge.wrongLaw("no ^age");
        Edge.wrongLaw("no ^-1");
    }

    /** "ATOM: not ATOM | ( C ) | wed | kin | crib | SUM < SUM | SUM > SUM". */
    static void wrongAtoms() {
        Edge.wrongLaw("calm if ^)");
        Edge.wrongLaw("calm if (^)");
        Edge.wrongLaw("calm if ^and wed");
        Edge.wrongLaw("calm if ^or wed");
        Edge.wrongLaw("calm if ^if wed");
        Edge.wrongLaw("calm if ^< 1");
        Edge.wrongLaw("calm if ^+ 1 < 2");
        Edge.wrongLaw("calm if ^;");
        Edge.wrongLaw("calm if not ^;");
        Edge.wrongLaw("calm if not ^and");
        Edge.wrongLaw("calm if ^step < 1");
        Edge.wrongLaw("calm if ^ripe");
        Edge.wrongLaw("calm if ^boy");
        Edge.wrongLaw("calm if ^elders > 1");
        Edge.wrongLaw("calm if wed ^kin");
        Edge.wrongLaw("calm if wed ^not kin");
        Edge.wrongLaw("calm if wed ^(kin)");
        Edge.wrongLaw("calm if wed ^if kin");
        Edge.wrongLaw("calm if wed and ^;");
        Edge.wrongLaw("calm if wed or ^and kin");
        Edge.wrongLaw("calm if wed^)");
        Edge.wrongLaw("calm if (wed)^)");
        Edge.wrongLaw("calm if (wed^;");
        Edge.wrongLaw("calm if (wed ^kin)");
        Edge.wrongLaw("calm if wed ^1");
    }

    /** "SUM: PART { + PART }; PART: NUMBER | who | whom | age | elder | turns | day". */
    static void wrongSums() {
        Edge.wrongLaw("calm if 1 ^1 < 2");
        Edge.wrongLaw("calm if 1 ^age < 2");
        Edge.wrongLaw("calm if 1 + ^< 2");
        Edge.wrongLaw("calm if 1 + ^+ 2 < 2");
        Edge.wrongLaw("calm if 1 + ^wed < 2");
        Edge.wrongLaw("calm if 1 < ^wed");
        Edge.wrongLaw("calm if 1 < ^< 2");
        Edge.wrongLaw("calm if 1 < ^> 2");
        Edge.wrongLaw("calm if 1 < 2 ^< 3");
        Edge.wrongLaw("calm if 1 < 2 ^> 3");
        Edge.wrongLaw("calm if 1 ^= 2");
        Edge.wrongLaw("calm if age ^- 1 > 2");
        Edge.wrongLaw("calm if (age^) < 2");
        Edge.wrongLaw("calm if age ^and wed");
        Edge.wrongLaw("calm if 1^;");
        Edge.wrongLaw("calm if 1 < ^(2)");
        Edge.wrongLaw("calm if 1 < ^not 2");
        for (String part : new String[] {"7", "who", "whom", "age", "elder", "turns", "day"}) {
            Edge.rightLaw("calm if " + part + "<" + part + " or 1 +" + part + ">" + part + "+" + part, 1);
        }
    }

    /** "or the text's length, if more must come". */
    static void moreMustCome() {
        for (String s : new String[] {"no", "yes", "no 1 if", "calm if", "calm if not", "calm if (", "calm if (wed", "calm if (wed or", "calm if (wed and", "calm if wed or",
            "calm if wed and", "calm if age", "calm if age +", "calm if age <", "calm if age >", "calm if age > 1 +", "calm if not (", "calm if ((wed)", "calm;", "no 1;"}) {
            Edge.wrongLaw(s + "^");
            Edge.wrongLaw(s + "    ^");
            Edge.wrongLaw("yes 1;" + s + "^");
        }
    }

    /** "Words are as long as a to z go on; between all there may be blanks". */
    static void wordsAndBlanks() {
        Edge.rightLaw("no1if age<1and elder>2or not(wed);yes2;calm if(kin)and(crib)or 1+who+whom<turns+day", 3);
        Edge.rightLaw("  no  1  if  age  <  1  and  (  wed  )  ;  calm  ", 2);
        Edge.wrongLaw("no 1 ^ifage < 1");
        Edge.wrongLaw("no 1 if ^notwed");
        Edge.wrongLaw("no 1 if age < 1 ^andwed");
        Edge.wrongLaw("no 1 if ^ageelder < 1");
        Edge.wrongLaw("no 1 if who ^m < 1");
        Edge.wrongLaw("no 1^\t");
        Edge.wrongLaw("no^\n1");
        Edge.wrongLaw("no 1 if age ^\u00ff");
    }

    // ---- Promise 9

    /** "(whether it governs it or not)". */
    static void weighsWhetherItGovernsOrNot() {
        CribLine x = Check.of(TWO + "step 3;governs 0 1", "no 5 if who < 1;yes 7 if who > 0");
        Check.due("it governs", x.weighs(0, 1, false), 8);
        Check.due("it does not", x.weighs(1, 0, true), 10);
    }

    /** "What a no .. WEIGHS now": nothing is said. */
    static void weighingChangesNothing() {
        CribLine x = Check.of(TWO + "governs 0 1", "no 5");
        String state = Edge.state(x);
        x.weighs(0, 1, false);
        x.weighs(1, 0, true);
        Edge.alike("behind weighs", Edge.state(x), state);
    }

    public static void main(String[] args) throws ReflectiveOperationException {
        Edge.run(EdgeLawTest.class);
    }
}
