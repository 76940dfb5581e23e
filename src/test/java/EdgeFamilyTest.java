/** Boundary cases of the terms ahead of the promises and of THE FAMILY's texts (promise 4). Each method is a test of one sentence. */
final class EdgeFamilyTest {
    private static final String TWO = "person girl age 40;person boy age 30;";

    // ---- the terms

    /** "ROUND 2 to 99 (90 at first)". */
    static void round() {
        Check.due("at first", new CribLine().count(4), 90);
        Check.due("2", Edge.right("round 2").count(4), 2);
        Check.due("99", Edge.right("round 99").count(4), 99);
        Edge.wrongFamily("round ^1");
        Edge.wrongFamily("round ^0");
        Edge.wrongFamily("round ^100");
        Edge.wrongFamily("round ^999");
    }

    /** "AGES are 0 to ROUND less 1". */
    static void ages() {
        Check.due("0", Edge.right("person boy age 0").person(0, 0), 0);
        Check.due("89", Edge.right("person boy age 89").person(0, 0), 89);
        Edge.wrongFamily("person boy age ^90");
        Check.due("98 of 99", Edge.right("round 99;person boy age 98").person(0, 0), 98);
        Edge.wrongFamily("round 99;person boy age ^99");
        Check.due("1 of 2", Edge.right("round 2;person boy age 1").person(0, 0), 1);
        Edge.wrongFamily("round 2;person boy age ^2");
    }

    /** "PEOPLE (at most 8 ..": eight in one text, eight in two, and of births. */
    static void people() {
        String seven = "person boy age 1;".repeat(7);
        CribLine x = Edge.right(seven + "person boy age 8");
        Check.due("eight", x.count(0), 8);
        Edge.wrongFamily(x, "^person boy age 1");
        Edge.wrongFamily(x, "step 3;^person boy age 1");
        Edge.wrongFamily(seven + "person boy age 8; ^person boy age 1");
        CribLine y = Edge.right("person girl age 1;" + "person boy age 1;".repeat(5) + "person boy age 6");
        Check.due("the eighth is born", y.bear(0, true), 7);
        Edge.wrongFamily(y, "^person boy age 1");
        y.undo();
        Check.due("behind what was undone there is room", Check.family(y, "person boy age 3"), 2);
        Check.due("eight", y.count(0), 8);
    }

    /** ".. numbered from 0 on)". */
    static void peopleAreNumberedFrom0() {
        CribLine x = new CribLine();
        for (int i = 0; i < 8; i++) {
            int person = i;
            Check.refused(i + " is not there by then", Edge.NOBODY, () -> x.person(person, 0));
            Check.family(x, "person boy age 1" + i);
            Check.due("AGE of " + i, x.person(i, 0), 10 + i);
        }
        Check.refused("8", Edge.NOBODY, () -> x.person(8, 0));
        Check.refused("-1", Edge.NOBODY, () -> x.person(-1, 0));
    }

    /** What a PERSON is at first, where a text does not tell it. */
    static void personAtFirst() {
        CribLine x = Edge.right("person girl age 7;person boy age 8");
        int[] due = {7, 0, 1, -1, -1, 0, 50, 0, 0, 0, 0};
        for (int what = 0; what < due.length; what++) Check.due("what " + what, x.person(0, what), due[what]);
        Check.due("LENT", x.lent(0, 1), 0);
    }

    /** "a SORT 0 or 1": boy (0), girl (1), no other. */
    static void sorts() {
        Check.due("boy", Edge.right("person boy age 1").person(0, 2), 0);
        Check.due("girl", Edge.right("person girl age 1").person(0, 2), 1);
        Edge.wrongFamily("person ^man age 1");
        Edge.wrongFamily("person ^0 age 1");
        Edge.wrongFamily("person boy ^girl age 1");
    }

    /** "a PARENT (a PERSON of a lesser number) or none". */
    static void parents() {
        Check.due("none", Edge.right("person boy age 1").person(0, 3), -1);
        CribLine x = Edge.right("person boy age 1;person boy age 2 of 0;person boy age 3 of 1");
        Check.due("0", x.person(1, 3), 0);
        Check.due("the number just below", x.person(2, 3), 1);
        Edge.wrongFamily("person boy age 1 of ^0");
        Edge.wrongFamily("person boy age 1;person boy age 2 of ^1");
        Edge.wrongFamily(x, "person boy age 1 of ^3");
        Edge.wrongFamily(x, "person boy age 1 of ^4");
        Check.due("7 of 6", Edge.right("person boy age 1;".repeat(7) + "person boy age 2 of 6").person(7, 3), 6);
    }

    /** "WANTS 0 to 100 (0 at first)". */
    static void wants() {
        Check.due("0", Edge.right("person boy age 1 wants 0").person(0, 5), 0);
        Check.due("100", Edge.right("person boy age 1 wants 100").person(0, 5), 100);
        Edge.wrongFamily("person boy age 1 wants ^101");
        Edge.wrongFamily("person boy age 1 wants ^999");
    }

    /** "STERN 0 to 100 (50 at first)". */
    static void sterns() {
        Check.due("0", Edge.right("person boy age 1 stern 0").person(0, 6), 0);
        Check.due("100", Edge.right("person boy age 1 stern 100").person(0, 6), 100);
        Edge.wrongFamily("person boy age 1 stern ^101");
    }

    /** "PERMITS 0 to 9 (0 at first)". */
    static void permits() {
        Check.due("0", Edge.right("person boy age 1 permits 0").person(0, 7), 0);
        Check.due("9", Edge.right("person boy age 1 permits 9").person(0, 7), 9);
        Edge.wrongFamily("person boy age 1 permits ^10");
    }

    /** "LENT: to each other one 0 to 9 (0 at first)": each to each by itself. */
    static void lentToEach() {
        CribLine x = Edge.right("person boy age 1 permits 9;" + "person boy age 1;".repeat(6) + "person boy age 7");
        for (int i = 1; i < 8; i++) x.lend(0, i);
        for (int i = 0; i < 8; i++) {
            for (int j = 0; j < 8; j++) {
                if (i != j) Check.due("LENT by " + i + " to " + j, x.lent(i, j), i == 0 ? 1 : 0);
            }
        }
    }

    /** "GOVERNED by: .. as bits (none at first)": bits of 0 and of 7. */
    static void governorsAsBits() {
        CribLine x = Edge.right("person boy age 1;".repeat(7) + "person boy age 7;governs 0 7;governs 7 0;governs 6 7");
        Check.due("who governs 7", x.person(7, 8), 0b01000001);
        Check.due("who governs 0", x.person(0, 8), 0b10000000);
        Check.due("who governs 6", x.person(6, 8), 0);
        Check.due("whom 7 governs", x.person(7, 9), 1);
        Check.due("whom 0 governs", x.person(0, 9), 0b10000000);
    }

    /** "RIPE 0 to 99 (5 at first)". */
    static void ripe() {
        Check.due("at first", new CribLine().count(5), 5);
        Check.due("0", Edge.right("ripe 0").count(5), 0);
        Check.due("99", Edge.right("ripe 99").count(5), 99);
        Edge.wrongFamily("ripe ^100");
    }

    /** RIPE is not bound by ROUND. */
    static void ripeAboveRound() {
        CribLine x = Edge.right("ripe 99;round 2;person boy age 1;person boy age 0");
        Check.due("all are in the CRIB", x.crib(), 3);
    }

    /** "one of an AGE below RIPE is in the CRIB". */
    static void cribIsBelowRipe() {
        CribLine x = Edge.right("person boy age 4;person boy age 5;person boy age 6;person boy age 0");
        Check.due("4 and 0 are below 5", x.crib(), 0b1001);
        Check.family(x, "ripe 0");
        Check.due("nobody is below 0", x.crib(), 0);
        Check.family(x, "ripe 1");
        Check.due("0 is below 1", x.crib(), 0b1000);
        Check.family(x, "ripe 99");
        Check.due("all", x.crib(), 15);
    }

    /** "STEP 0 to 20 (1 at first)". */
    static void step() {
        Check.due("at first", new CribLine().count(6), 1);
        Check.due("0", Edge.right("step 0").count(6), 0);
        Check.due("20", Edge.right("step 20").count(6), 20);
        Edge.wrongFamily("step ^21");
    }

    /** "day: 0 to 999" and "DAY .. (0 at first)". */
    static void day() {
        Check.due("at first", new CribLine().count(3), 0);
        Check.due("0", Edge.right("day 5;day 0").count(3), 0);
        Check.due("999", Edge.right("day 999").count(3), 999);
        Edge.wrongFamily("day ^1000");
        CribLine x = Edge.right("day 999");
        x.days(1);
        Check.family(x, "day 998");
        Check.due("DAY goes back, too", x.count(3), 998);
    }

    /** "GAP of two AGES: the fewer steps .. round the ring": at the half of an even and of an odd ROUND. */
    static void gapAtTheHalf() {
        CribLine x = Edge.right("round 10;person boy age 0;person boy age 4;person boy age 5;person boy age 6;person boy age 9;person boy age 0");
        int[] due = {0, 4, 5, 4, 1, 0};
        for (int i = 1; i < due.length; i++) {
            Check.due("0 and " + i, x.gap(0, i), due[i]);
            Check.due(i + " and 0", x.gap(i, 0), due[i]);
        }
        CribLine y = Edge.right("round 9;person boy age 0;person boy age 4;person boy age 5;person boy age 8");
        Check.due("4", y.gap(0, 1), 4);
        Check.due("5", y.gap(0, 2), 4);
        Check.due("8", y.gap(0, 3), 1);
    }

    /** GAP in the least and in the greatest ring. */
    static void gapOfTheLeastRing() {
        Check.due("2", Edge.right("round 2;person boy age 0;person boy age 1").gap(0, 1), 1);
        Check.due("99", Edge.right("round 99;person boy age 0;person boy age 49").gap(0, 1), 49);
        Check.due("99, the other way", Edge.right("round 99;person boy age 0;person boy age 50").gap(0, 1), 49);
        Check.due("like AGES", Edge.right("person boy age 7;person boy age 7").gap(0, 1), 0);
    }

    // ---- how many texts, how many LINES

    /** "texts (at most 12 ..": the 12th is read, the 13th is not. */
    static void twelveTexts() {
        CribLine x = new CribLine();
        for (int i = 1; i <= 12; i++) Check.due("text " + i, Check.family(x, "step " + i), i);
        Check.tape(x, "step 13");
        Check.refused("text 13", Edge.TOO_MANY, x::family);
        Check.due("STEP", x.count(6), 12);
        Check.due("texts", x.count(1), 12);
    }

    /** "IllegalArgumentException: it is wrong" goes ahead of "there are 12". */
    static void wrongThirteenthText() {
        CribLine x = new CribLine();
        for (int i = 1; i <= 12; i++) Check.family(x, "");
        Edge.wrongFamily(x, "step ^x");
    }

    /** Wrong texts and texts of THE LAW do not count among the 12. */
    static void onlyRightFamilyTextsCount() {
        CribLine x = new CribLine();
        for (int i = 1; i <= 12; i++) {
            Edge.wrongFamily(x, "step ^x");
            Check.law(x, "no 1");
            Check.due("text " + i, Check.family(x, ""), i);
        }
        Check.due("a LAW is read behind 12 texts, too", Check.law(x, "no 1;no 2"), 2);
    }

    /** THE IMAGE is of all: of how many texts there are, too. */
    static void textsByTheImage() {
        CribLine x = new CribLine();
        for (int i = 1; i <= 11; i++) Check.family(x, "");
        x.image();
        Check.due("the 12th", Check.family(x, ""), 12);
        x.back();
        Check.due("texts", x.count(1), 11);
        Check.due("the 12th again", Check.family(x, ""), 12);
    }

    /** "LINE { ; LINE }, at most 14". */
    static void fourteenLines() {
        String thirteen = "step 1;".repeat(13);
        Check.due("14", Edge.right(thirteen + "step 14").count(6), 14);
        Edge.wrongFamily(thirteen + "step 2;^step 3");
        Edge.wrongFamily(thirteen + "step 2 ;  ^day 3");
        Edge.wrongFamily(thirteen + "step 2;^stop 3");
        Edge.wrongFamily(thirteen + "step 2;^");
        Edge.wrongFamily(thirteen + "step 2;  ^");
        Edge.wrongFamily(thirteen + "step 2;^;");
    }

    /** A wrong byte ahead of the 15th LINE is the first one. */
    static void wrongAheadOfTheFifteenth() {
        Edge.wrongFamily("step ^21;" + "step 1;".repeat(14) + "step 1");
        Edge.wrongFamily("step 1;".repeat(13) + "step ^21;step 1");
    }

    // ---- LINES

    /** "age: below ROUND as it is by then". */
    static void ageByTheRoundByThen() {
        Edge.right("round 50;person boy age 49");
        Edge.wrongFamily("round 50;person boy age ^50");
        Edge.right("round 99;person boy age 95");
        Edge.wrongFamily("person boy age ^95;round 99");
        Edge.right("round 5;round 99;person boy age 98");
        Edge.wrongFamily("round 99;round 5;person boy age ^5");
        CribLine x = Edge.right("round 7");
        Edge.wrongFamily(x, "person boy age ^7");
        Check.due("6", Check.family(x, "person boy age 6"), 2);
    }

    /** "H: a PERSON that there is by then": of the same text or of one before. */
    static void personByThen() {
        Edge.wrongFamily("governs ^0 1;" + TWO + "step 1");
        Edge.wrongFamily("person girl age 1;governs 0 ^1;person boy age 1");
        Edge.wrongFamily("wed ^0 1");
        Edge.wrongFamily("person girl age 1;wed 0 ^1;person boy age 1");
        Edge.right(TWO + "governs 0 1;governs 1 0;wed 1 0");
        CribLine x = Edge.right(TWO + "step 1");
        Edge.wrongFamily(x, "governs ^2 0");
        Edge.wrongFamily(x, "governs 0 ^2");
        Edge.wrongFamily(x, "wed ^2 0");
        Edge.wrongFamily(x, "wed 0 ^2");
        Edge.wrongFamily(x, "governs ^999 0");
        Check.due("of the text before", Check.family(x, "governs 1 0;wed 0 1"), 2);
    }

    /** "governs: the first may say to the second, another one, else it is wrong at it". */
    static void governsAnother() {
        Edge.wrongFamily(TWO + "governs 0 ^0");
        Edge.wrongFamily(TWO + "governs 1 ^1;step 1");
        Edge.wrongFamily(TWO + "governs 1 ^001");
        CribLine x = Edge.right(TWO + "governs 0 1;governs 0 1");
        Check.due("told twice", x.person(1, 8), 1);
        Check.due("not the other way", x.person(0, 8), 0);
    }

    /** "wed: of unlike SORTS .. else it is wrong at the second one". */
    static void wedOfUnlikeSorts() {
        Edge.wrongFamily("person girl age 1;person girl age 2;wed 0 ^1");
        Edge.wrongFamily("person boy age 1;person boy age 2;wed 1 ^0");
        Edge.wrongFamily("person boy age 1;wed 0 ^0");
        Edge.right("person boy age 1;person girl age 2;wed 0 1");
        Edge.right("person boy age 1;person girl age 2;wed 1 0");
    }

    /** "both without a SPOUSE": the first one, the second one, both; wrong at the second one. */
    static void wedWithoutASpouse() {
        String four = "person girl age 1;person boy age 2;person girl age 3;person boy age 4;wed 0 1;";
        Edge.wrongFamily(four + "wed 0 ^3");
        Edge.wrongFamily(four + "wed 3 ^0");
        Edge.wrongFamily(four + "wed 2 ^1");
        Edge.wrongFamily(four + "wed 1 ^2");
        Edge.wrongFamily(four + "wed 0 ^1");
        Edge.wrongFamily(four + "wed 1 ^0");
        CribLine x = Edge.right(four + "wed 2 3");
        Check.due("SPOUSES", x.count(10), 15);
        x.part(0);
        x.part(2);
        Check.due("behind a parting", Check.family(x, "wed 0 3;wed 2 1"), 2);
    }

    /** "neither the PARENT of the other one": either way; wrong at the second one. */
    static void wedNoParent() {
        Edge.wrongFamily("person girl age 1;person boy age 2 of 0;wed 0 ^1");
        Edge.wrongFamily("person girl age 1;person boy age 2 of 0;wed 1 ^0");
        Edge.right("person girl age 1;person boy age 2 of 0;person girl age 2 of 0;wed 1 2");
        Edge.right("person girl age 1;person boy age 2 of 0;person boy age 2 of 1;wed 0 2");
    }

    /** "round: above all AGES that there are, else it is wrong". */
    static void roundAboveAllAges() {
        Edge.wrongFamily("person boy age 60;round ^60");
        Check.due("61", Edge.right("person boy age 60;round 61").count(4), 61);
        Edge.wrongFamily("person boy age 60;person boy age 3;round ^59");
        Edge.wrongFamily("person boy age 3;person boy age 60;round ^60");
        Check.due("2, of AGE 1", Edge.right("person boy age 1;round 2").count(4), 2);
        Edge.wrongFamily("person boy age 0;round ^1");
        CribLine x = Edge.right("person boy age 60;person girl age 1;governs 1 0");
        x.say(1, 0, false);
        Check.due("by AGE as it is by then", Check.family(x, "round 60"), 2);
        Edge.wrongFamily(x, "round ^59");
    }

    /** Whatever may stand in a LINE of a PERSON stands in its order, once. */
    static void restOfAPersonInOrder() {
        Edge.right(TWO + "person boy age 1 of 0 wants 1 stern 2 permits 3");
        Edge.wrongFamily(TWO + "person boy age 1 wants 1 ^of 0");
        Edge.wrongFamily(TWO + "person boy age 1 stern 1 ^wants 0");
        Edge.wrongFamily(TWO + "person boy age 1 permits 1 ^stern 0");
        Edge.wrongFamily(TWO + "person boy age 1 of 0 ^of 0");
        Edge.wrongFamily(TWO + "person boy age 1 wants 0 ^wants 0");
        Edge.wrongFamily(TWO + "person boy age 1 stern 0 ^stern 0");
        Edge.wrongFamily(TWO + "person boy age 1 permits 0 ^permits 0");
        Edge.wrongFamily(TWO + "person boy ^of 0 age 1");
    }

    /** Each of what may stand there may be left out. */
    static void restOfAPersonLeftOut() {
        String[] rest = {"of 1", "wants 7", "stern 8", "permits 9"};
        int[] what = {3, 5, 6, 7};
        int[] told = {1, 7, 8, 9};
        int[] first = {-1, 0, 50, 0};
        for (int bits = 0; bits < 16; bits++) {
            StringBuilder line = new StringBuilder("person boy age 6");
            for (int i = 0; i < 4; i++) {
                if ((bits >> i & 1) == 1) line.append(' ').append(rest[i]);
            }
            CribLine x = Edge.right(TWO + line);
            for (int i = 0; i < 4; i++) {
                Check.due(line + ", what " + what[i], x.person(2, what[i]), (bits >> i & 1) == 1 ? told[i] : first[i]);
            }
        }
    }

    // ---- numbers, words, blanks

    /** "Numbers are of 1 to 3 digits". */
    static void digits() {
        Check.due("1", Edge.right("step 7").count(6), 7);
        Check.due("2", Edge.right("step 07").count(6), 7);
        Check.due("3", Edge.right("step 007").count(6), 7);
        Edge.wrongFamily("step ^0007");
        Edge.wrongFamily("step ^00000000000000000000000007");
        Edge.wrongFamily("day ^4294967296");
        Edge.wrongFamily("person boy age ^0001");
        Edge.wrongFamily("person boy age 1;person boy age 1 of ^0000");
        Edge.wrongFamily("person boy age 1 wants ^0001");
        Edge.wrongFamily("person boy age 1 stern ^0001");
        Edge.wrongFamily("person boy age 1 permits ^0001");
        Edge.wrongFamily(TWO + "governs ^0000 1");
        Edge.wrongFamily(TWO + "governs 0 ^0001");
        Edge.wrongFamily(TWO + "wed ^0000 1");
        Edge.wrongFamily(TWO + "wed 0 ^0001");
        Edge.wrongFamily("round ^0050");
        Edge.wrongFamily("ripe ^0050");
        Edge.right(TWO + "person boy age 001 of 000 wants 001 stern 001 permits 001;governs 000 001;wed 000 001");
    }

    /** A number has no sign, and no digits apart. */
    static void noSignsOfNumbers() {
        Edge.wrongFamily("step ^-1");
        Edge.wrongFamily("step ^+1");
        Edge.wrongFamily("step 1 ^2");
        Edge.wrongFamily("step 1^.5");
        Edge.wrongFamily("step 1^,");
    }

    /** "Words are as long as a to z go on". */
    static void words() {
        Edge.right("step1;ripe2;day3;round50;person girl age1;person boy age2of0wants3stern4permits5;governs0 1");
        Edge.wrongFamily("^stepx 1");
        Edge.wrongFamily("^xstep 1");
        Edge.wrongFamily("^ste p 1");
        Edge.wrongFamily("^stepripe 1");
        Edge.wrongFamily("person ^boyage 1");
        Edge.wrongFamily("person boy ^ages 1");
        Edge.wrongFamily("^personboy age 1");
        Edge.wrongFamily("person boy age 1 ^want 1");
        Edge.wrongFamily("person boy age 1^o");
    }

    /** "as long as a to z go on": a and z are of them. */
    static void wordsOfAToZ() {
        Edge.wrongFamily("^stepz 1");
        Edge.wrongFamily("^stepa 1");
        Edge.wrongFamily("^zstep 1");
        Edge.wrongFamily("^astep 1");
        Edge.wrongFamily("person ^boyz age 1");
        Edge.wrongFamily("person boy age 1^z");
        Edge.wrongFamily("person boy age 1^a");
        Edge.wrongLaw("^calmz");
        Edge.wrongLaw("calm if ^wedz");
    }

    /** Signs just outside a to z and 0 to 9, and great letters, end a word and are wrong themselves. */
    static void signsRoundTheWords() {
        Edge.wrongFamily("^Step 1");
        Edge.wrongFamily("^STEP 1");
        Edge.wrongFamily("step^` 1");
        Edge.wrongFamily("step^{ 1");
        Edge.wrongFamily("step^@ 1");
        Edge.wrongFamily("step ^/1");
        Edge.wrongFamily("step 1^:");
        Edge.wrongFamily("^steP 1");
        Edge.wrongFamily("step^\u00e9 1");
        Edge.wrongFamily("step 1^\u00ff");
        Edge.wrongFamily("step 1^\u0000");
    }

    /** What only THE LAW knows is wrong here: its words, its signs. */
    static void noLawInAFamily() {
        for (String s : new String[] {"no 1", "yes 1", "calm", "if", "or", "and", "not", "kin", "crib", "who", "whom", "elder", "turns", "(", ")", "<", ">", "+", "1"}) {
            Edge.wrongFamily("^" + s);
            Edge.wrongFamily("step ^" + (s.equals("1") ? "x" : s));
        }
        for (String s : new String[] {"boy", "girl", "age", "of 0", "wants 1", "stern 1", "permits 1"}) Edge.wrongFamily("^" + s);
    }

    /** "between all there may be blanks (32), also ahead and behind": none, one, many. */
    static void blanks() {
        CribLine x = Edge.right("   person    boy   age   7   wants   8  ;   step   9   ");
        Check.due("AGE", x.person(0, 0), 7);
        Check.due("STEP", x.count(6), 9);
        Edge.right(" step 1");
        Edge.right("step 1 ");
        Edge.right("step 1;step 2");
        Edge.right("step 1 ; step 2");
        Edge.wrongFamily("step 1 ^0 ");
    }

    /** No other sign is a blank. */
    static void noOtherBlanks() {
        for (int b : new int[] {0, 9, 10, 11, 12, 13, 31, 33, 127, 128, 133, 160, 255}) {
            Edge.wrongFamily("step^" + (char) b + "1");
            Edge.wrongFamily("^" + (char) b);
            Edge.wrongFamily("step 1^" + (char) b);
        }
    }

    /** "A text that is empty, or blanks alone, has no LINE": it is right, and a text. */
    static void emptyTexts() {
        CribLine x = new CribLine();
        Check.due("empty", Check.family(x, ""), 1);
        Check.due("a blank", Check.family(x, " "), 2);
        Check.due("400 blanks", Check.family(x, " ".repeat(400)), 3);
        Check.due("nobody", x.count(0), 0);
        Check.due("no fault", x.fault(), -1);
        Edge.wrongFamily(x, "^;");
        Edge.wrongFamily(x, "  ^;  ");
        Edge.wrongFamily(x, "step 1;^;step 1");
        Edge.wrongFamily(x, "^;step 1");
    }

    /** "or the text's length, if more must come". */
    static void moreMustCome() {
        for (String s : new String[] {"person", "person boy", "person boy age", "person boy age 1 of", "person boy age 1 wants", "person boy age 1 of 0 wants",
            "person boy age 1 stern", "person boy age 1 permits", "governs", "governs 0", "wed", "wed 0", "round", "ripe", "step", "day", "step 1;", "step 1 ;"}) {
            Edge.wrongFamily(TWO + s + "^");
            Edge.wrongFamily(TWO + s + "   ^");
        }
    }

    /** "of a LINE, a PERSON too many, the first word": whatever else is wrong in that LINE. */
    static void ninthPersonAtItsFirstWord() {
        String eight = "person boy age 1;".repeat(8);
        Edge.wrongFamily(eight + "^person");
        Edge.wrongFamily(eight + "^person cat");
        Edge.wrongFamily(eight + "^person boy age 99");
        Edge.wrongFamily(eight + "^persn");
        Edge.right(eight + "step 1");
    }

    private static CribLine lived() {
        CribLine x = Check.of(TWO + "person boy age 5;step 3;ripe 7;day 9;round 80", "no 3");
        x.stern(0, 9);
        x.image();
        x.stern(0, 7);
        return x;
    }

    private static void nothingStays(String text, int fault) {
        Edge.refusedText(text, Edge.NONE_SUCH, fault, () -> {
            CribLine x = lived();
            Check.tape(x, text);
            return x;
        }, CribLine::family);
    }

    /** "Of a wrong text nothing stays": all that a text can tell. */
    static void nothingStaysOfAWrongText() {
        nothingStays("step 9;ripe 9;day 99;round 99;person girl age 90 of 1;governs 0 1;wed 1 3;s", 72);
    }

    /** "Of a wrong text nothing stays": of each LINE by itself. */
    static void nothingStaysOfEachLine() {
        for (String line : new String[] {"person boy age 1", "governs 0 1", "wed 0 1", "round 99", "ripe 9", "step 9", "day 99"}) {
            nothingStays(line + ";9", line.length() + 1);
        }
    }

    /** A PERSON of a wrong text is not there, nor what one had told of it. */
    static void nobodyOfAWrongText() {
        CribLine x = Check.of(TWO + "step 1");
        Edge.wrongFamily(x, "person boy age 1 wants 9 stern 8 permits 7;governs 2 0;wed 0 2;^x");
        Check.refused("2", Edge.NOBODY, () -> x.person(2, 0));
        Check.due("born", x.bear(0, false), 2);
        int[] due = {45, 0, 0, 0, -1, 0, 50, 0, 1, 0, 0};
        for (int i = 0; i < due.length; i++) Check.due("what " + i, x.person(2, i), due[i]);
    }

    /** "one behind another": a text is told of what those before have left. */
    static void oneBehindAnother() {
        CribLine x = Check.of(TWO + "wed 0 1");
        Check.due("the second", Check.family(x, "person girl age 3 of 1;governs 0 2"), 2);
        Check.due("the third", Check.family(x, "governs 2 0"), 3);
        Check.due("PEOPLE", x.count(0), 3);
        Check.due("SPOUSE stays", x.person(0, 4), 1);
        Check.due("GOVERNED", x.person(2, 8), 1);
    }

    /** Within one text the first wrong byte is the first, though a later one is wrong, too. */
    static void theFirstOfSeveral() {
        Edge.wrongFamily("step ^21;ripe 100");
        Edge.wrongFamily("step 1 ^$ step 99");
        Edge.wrongFamily("person ^cat age 99");
        Edge.wrongFamily(TWO + "governs ^5 5");
        Edge.wrongFamily(TWO + "wed ^5 5");
    }

    public static void main(String[] args) throws ReflectiveOperationException {
        Edge.run(EdgeFamilyTest.class);
    }
}
