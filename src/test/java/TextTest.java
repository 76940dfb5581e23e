/** Promises 1 to 10 and 63: the TAPE, the texts, what one is. */
public final class TextTest {
    private static final Class<IllegalArgumentException> NONE_SUCH = IllegalArgumentException.class;
    private static final Class<IndexOutOfBoundsException> NOBODY = IndexOutOfBoundsException.class;

    private static String times(String s, int n) {
        return s.repeat(n);
    }

    private static void newObject() { // Promise 1, 63
        CribLine x = new CribLine();
        int[] due = {0, 0, -1, 0, 90, 5, 1, 0, 0, 0, 0, 0, 0};
        for (int what = 0; what < due.length; what++) {
            Check.due("new count " + what, x.count(what), due[what]);
        }
        Check.due("count -1", x.count(-1), -1);
        Check.due("count 13", x.count(13), -1);
        Check.due("new fault", x.fault(), -1);
        Check.due("new seed", x.seed(7), 1);
        Check.due("new log", x.log(0, 0), -1);
        Check.due("new undo", x.undo(), false);
        Check.due("new back", x.back(), false);
        Check.refused("person of nobody", NOBODY, () -> x.person(0, 0));
        Check.due("NONE", CribLine.NONE, -1);
    }

    private static void tape() { // Promises 2, 3
        CribLine x = new CribLine();
        for (int i = 1; i <= 20; i++) {
            Check.due("feed " + i, x.feed(0x20202020, 0x20202020, 0x20202020, 0x20202020, 0x20202020), 20 * i);
        }
        Check.due("feed 21", x.feed(1, 2, 3, 4, 5), -1);
        Check.due("end 401", x.end(401), false);
        Check.due("end -1", x.end(-1), false);
        Check.due("end 400", x.end(400), true);
        Check.due("end 381", x.end(381), true);
        Check.due("feed at 381", x.feed(1, 2, 3, 4, 5), -1);
        Check.due("end 380", x.end(380), true);
        Check.due("end 381 again", x.end(381), false);
        Check.due("feed at 380", x.feed(0x20202020, 0x20202020, 0x20202020, 0x20202020, 0x20202020), 400);
        Check.due("blanks alone", x.family(), 1);
        Check.due("the TAPE is used up", x.feed(0, 0, 0, 0, 0), 20);
        Check.due("end 0", x.end(0), true);
        // "step 12" and bytes behind: of each number the highest first
        Check.due("bytes", x.feed(0x73746570, 0x20313200, -1, -1, -1), 20);
        x.end(7);
        Check.due("bytes are a text", x.family(), 2);
        Check.due("step", x.count(6), 12);
        x.feed(0xFF000000, 0, 0, 0, 0);
        x.end(1);
        Check.refused("byte 255", NONE_SUCH, x::family);
        Check.due("fault of 255", x.fault(), 0);
    }

    private static void familyRight() { // Promises 4, 6, 7, 63
        CribLine x = new CribLine();
        Check.due("first text", Check.family(x, "  round 60;step 3 ; ripe 0;person girl age 59 stern 7;"
                + "person boy age058of0wants100stern000permits9 "), 1);
        Check.due("fault", x.fault(), -1);
        int[] girl = {59, 0, 1, -1, -1, 0, 7, 0, 0, 0, 0};
        int[] boy = {58, 0, 0, 0, -1, 100, 0, 9, 0, 0, 0};
        for (int what = 0; what < girl.length; what++) {
            Check.due("girl " + what, x.person(0, what), girl[what]);
            Check.due("boy " + what, x.person(1, what), boy[what]);
        }
        Check.due("second text", Check.family(x, "person boy age 0; governs 0 1;governs 1 0;governs 0 2;wed 2 0;day 999"), 2);
        Check.due("governors of 1", x.person(1, 8), 1);
        Check.due("governed by 0", x.person(0, 9), 6);
        Check.due("spouse of 0", x.person(0, 4), 2);
        Check.due("spouse of 2", x.person(2, 4), 0);
        int[] due = {3, 2, -1, 999, 60, 0, 3, 117, 0, 6, 5, 0, 0};
        for (int what = 0; what < due.length; what++) {
            Check.due("count " + what, x.count(what), due[what]);
        }
        Check.due("round as low as can be", Check.family(x, "round 60"), 3);
        Check.refused("what 11", java.util.NoSuchElementException.class, () -> x.person(0, 11));
        Check.refused("what -1", java.util.NoSuchElementException.class, () -> x.person(0, -1));
        Check.refused("nobody first", NOBODY, () -> x.person(3, 11));
        Check.refused("nobody below", NOBODY, () -> x.person(-1, 0));
        Check.due("14 LINES", Check.family(x, times("step 1;", 13) + "step 2"), 4);
        for (int i = 5; i <= 12; i++) {
            Check.due("text " + i, Check.family(x, ""), i);
        }
        Check.wrongFamily(x, "step 5;", 7);
        Check.tape(x, "step 5");
        Check.refused("a 13th text", UnsupportedOperationException.class, x::family);
        Check.due("fault of a text that is refused", x.fault(), -1);
        Check.due("nothing stays", x.count(6), 2);
        Check.due("texts", x.count(1), 12);
    }

    private static void familyWrong() { // Promises 4, 6
        CribLine x = Check.of("person girl age 40;person boy age 50 of 0;person boy age 3");
        Check.wrongFamily(x, "person", 6);
        Check.wrongFamily(x, "person  ", 8);
        Check.wrongFamily(x, "persons", 0);
        Check.wrongFamily(x, "Person", 0);
        Check.wrongFamily(x, "  ;", 2);
        Check.wrongFamily(x, "person age", 7);
        Check.wrongFamily(x, "person boy 7", 11);
        Check.wrongFamily(x, "person boy age 0001", 15);
        Check.wrongFamily(x, "person boy age 1 of 3", 20);
        Check.wrongFamily(x, "person boy age 1 stern 5 wants 5", 25);
        Check.wrongFamily(x, "person boy age 1 wants", 22);
        Check.wrongFamily(x, "person boy age 1 permits 9 permits 9", 27);
        Check.wrongFamily(x, "person boy age 1 2", 17);
        Check.wrongFamily(x, "governs 3 0", 8);
        Check.wrongFamily(x, "governs 0 3", 10);
        Check.wrongFamily(x, "governs 0 0", 10);
        Check.wrongFamily(x, "wed 0 1", 6);
        Check.wrongFamily(x, "wed 1 0", 6);
        Check.wrongFamily(x, "wed 1 2", 6);
        Check.wrongFamily(x, "wed 0 2;wed 0 2", 14);
        Check.wrongFamily(x, "round 50", 6);
        Check.wrongFamily(x, "step 2;round 51;person boy age 51", 31);
        Check.wrongFamily(x, "step 021", 5);
        Check.wrongFamily(x, "ripe-1", 4);
        Check.wrongFamily(x, "day 1 ,", 6);
        Check.wrongFamily(x, "day 1; (", 7);
        Check.wrongFamily(x, "day\t1", 3);
        Check.wrongFamily(x, times("person boy age 1;", 5) + " person boy age 1", 86);
        Check.wrongFamily(x, times("person boy age 1;", 5) + "persn", 85);
        Check.wrongFamily(x, times("step 1;", 14), 98);
        Check.wrongFamily(x, times("step 1;", 14) + " step 1", 99);
        Check.due("nothing stays", x.count(0), 3);
        Check.due("no STEP stays", x.count(6), 1);
        Check.due("no ROUND stays", x.count(4), 90);
        Check.due("no SPOUSE stays", x.count(10), 0);
        Check.due("texts", x.count(1), 1);
        Check.due("round above all", Check.family(x, "round 51"), 2);
        Check.wrongFamily(Check.of("person boy age 80;person boy age 2"), "round 80", 6);
        Check.wrongFamily(Check.of("person boy age 2;person boy age 80"), "round 80", 6);
        CribLine y = new CribLine();
        Check.wrongFamily(y, "round 001", 6);
        Check.due("round 2", Check.family(y, "round 2;person boy age 1"), 1);
        Check.wrongFamily(y, "person boy age 2", 15);
    }

    private static void lawWrong() { // Promises 5, 6
        CribLine x = new CribLine();
        Check.due("a law of no LINE", Check.law(x, "   "), 0);
        Check.due("LINES of it", x.count(2), 0);
        Check.due("12 LINES", Check.law(x, times("no 1;", 11) + "calm if not wed"), 12);
        Check.wrongLaw(x, times("no 1;", 12) + "no 1", 60);
        Check.wrongLaw(x, times("no 1;", 12), 60);
        Check.wrongLaw(x, "no 1 if wed wed", 12);
        Check.wrongLaw(x, "no 1 if wed < 1", 12);
        Check.wrongLaw(x, "no 1 if age + < 1", 14);
        Check.wrongLaw(x, "no 1 if age < elder > 1", 20);
        Check.wrongLaw(x, "no 1 if age = 1", 12);
        Check.wrongLaw(x, "no 1 if 1000 < 1", 8);
        Check.wrongLaw(x, "no 1 if wed and", 15);
        Check.wrongLaw(x, "no 1 if wed or or", 15);
        Check.wrongLaw(x, "no 1 if (wed", 12);
        Check.wrongLaw(x, "no 1 if wed)", 11);
        Check.wrongLaw(x, "no 1 if ()", 9);
        Check.wrongLaw(x, "no 1 if (age) < 1", 12);
        Check.wrongLaw(x, "no 1 if step > 1", 8);
        Check.wrongLaw(x, "no if wed", 3);
        Check.wrongLaw(x, "yes 61", 4);
        Check.wrongLaw(x, "calm 5", 5);
        Check.wrongLaw(x, "no 5 calm", 5);
        Check.wrongLaw(x, "no 1 if ((((((wed))))))) ", 23);
        Check.wrongLaw(x, "no 1 if (((((((wed)))))))", 14);
        Check.wrongLaw(x, "no 1 if not not not not not not not wed", 32);
        Check.wrongLaw(x, "no 1 if (not (not (not (wed))))", 23);
        Check.due("the law before stays", x.count(2), 12);
        Check.due("6 deep", Check.law(x, "no 1 if ((((((wed)))))) and not not not not not not kin or not(not(not (1<2)))"), 1);
        Check.due("fault", x.fault(), -1);
        Check.refused("the TAPE is no text of THE FAMILY", NONE_SUCH, () -> Check.family(x, "no 1"));
        Check.due("fault by a family", x.fault(), 0);
    }

    private static int weight(CribLine x, String law, int who, int whom, boolean yes) {
        Check.law(x, law);
        return x.weighs(who, whom, yes);
    }

    // Whatever text a LINE's text goes on from: it is right or wrong by its end alone.
    private static void cut() { // Promises 4, 5, 6
        String people = "person girl age 1;person boy age 2;";
        String[] family = {"person", "person boy", "person boy age", "person boy age 1 of", "person boy age 1 wants", "person boy age 1 stern",
            "person boy age 1 permits", "governs", "governs 0", "wed", "wed 0", "round", "ripe", "step", "day", "step 1;", "step 1 ;  "};
        for (String line : family) {
            Check.wrongFamily(new CribLine(), people + line, people.length() + line.length());
        }
        String[] law = {"no", "yes", "no 1 if", "calm if", "calm if not", "calm if (", "calm if (wed", "calm if (wed or", "calm if (wed and", "calm if wed or",
            "calm if wed and", "calm if age", "calm if age +", "calm if age <", "calm if age > 1 +", "calm if not (", "calm;", "no 1 ; "};
        for (String line : law) {
            Check.wrongLaw(new CribLine(), "yes 1;" + line, 6 + line.length());
        }
        String[] above = {"ripe 100", "step 21", "round 100", "round 1", "round 0", "person boy age 90", "person boy age 1 of 2",
            "person boy age 1 wants 101", "person boy age 1 stern 101", "person boy age 1 permits 10", "governs 2", "governs 0 2", "wed 2", "wed 0 2"};
        for (String line : above) {
            Check.wrongFamily(new CribLine(), people + line, people.length() + line.lastIndexOf(' ') + 1);
        }
        String[] right = {"ripe 99", "ripe 0", "step 20", "step 0", "round 99", "round 3", "day 999", "day 0", "person boy age 89", "person boy age 1 of 0",
            "person boy age 1 wants 100", "person boy age 1 wants 0", "person boy age 1 stern 100", "person boy age 1 stern 0", "person boy age 1 permits 0",
            "governs 0 1", "governs 1 0", "wed 0 1", "wed 1 0"};
        for (String line : right) {
            Check.due(line, Check.family(new CribLine(), people + line), 1);
        }
        Check.wrongFamily(new CribLine(), "zstep 1", 0);
        Check.wrongFamily(new CribLine(), "stepz 1", 0);
        Check.wrongFamily(new CribLine(), "astep 1", 0);
        Check.wrongFamily(new CribLine(), "step` 1", 4);
        Check.wrongFamily(new CribLine(), "step{ 1", 4);
        Check.wrongFamily(new CribLine(), "step /1", 5);
        Check.wrongFamily(new CribLine(), "step 1:", 6);
        Check.due("no 0", Check.law(new CribLine(), "no 0;yes 60"), 2);
        Check.due("999", Check.law(new CribLine(), "no 0 if 999 < 000"), 1);
    }

    private static void weighs() { // Promise 9
        String people = "step 2;day 7;person girl age 30;person boy age 4 of 0;person boy age 5;wed 0 2";
        CribLine x = Check.of(people);
        Check.due("no law", x.weighs(0, 1, true), 2);
        Check.due("no LINE of a no", weight(x, "no 5", 0, 1, false), 7);
        Check.due("no LINE of a yes", weight(x, "no 5", 0, 1, true), 2);
        Check.due("sum", weight(x, "no 5;yes 7;no 11;no 1 if wed", 0, 1, false), 18);
        Check.due("by ROUND", weight(x, "yes 60;yes 59", 0, 1, true), 31);
        Check.due("calm", weight(x, "no 5;calm if kin;no 6", 0, 1, false), 0);
        Check.due("calm not held", weight(x, "no 5;calm if kin;no 6", 1, 0, false), 13);
        Check.due("kin is its PARENT", weight(x, "no 1 if kin", 0, 1, false), 3);
        Check.due("kin is not its child", weight(x, "no 1 if kin", 1, 0, false), 2);
        Check.due("wed", weight(x, "no 1 if wed", 1, 0, false), 3);
        Check.due("wed and", weight(x, "no 1 if wed and 1 < 2", 1, 0, false), 3);
        Check.due("not wed", weight(x, "no 1 if not wed", 1, 0, false), 2);
        Check.due("not kin", weight(x, "no 1 if not kin", 0, 1, false), 2);
        Check.due("kin and", weight(x, "no 1 if kin and crib and 1 < 2", 0, 1, false), 3);
        Check.due("not crib", weight(x, "no 1 if not crib", 0, 1, false), 2);
        Check.due("as much is not less", weight(x, "no 1 if 2 < 2 or 2 > 2", 0, 1, false), 2);
        Check.due("of RIPE's AGE", weight(x, "no 1 if crib", 0, 2, false), 2);
        Check.due("wed is of that one", weight(x, "no 1 if wed", 0, 1, false), 2);
        Check.due("crib", weight(x, "no 1 if crib", 0, 1, false), 3);
        Check.due("crib is of that one", weight(x, "no 1 if crib", 1, 0, false), 2);
        Check.due("who", weight(x, "no 1 if who > 1", 2, 1, false), 3);
        Check.due("whom", weight(x, "no 1 if whom > 0 and whom < 2", 2, 1, false), 3);
        Check.due("age", weight(x, "no 1 if age < 5", 0, 1, false), 3);
        Check.due("elder", weight(x, "no 1 if elder < 5", 1, 0, false), 3);
        Check.due("elder is not that one", weight(x, "no 1 if elder < 5", 0, 1, false), 2);
        Check.due("day", weight(x, "no 1 if day + 0 > 6", 0, 1, false), 3);
        Check.due("sums", weight(x, "no 1 if age + elder + 1 > 34", 0, 1, false), 3);
        Check.due("sums are not above", weight(x, "no 1 if age + elder > 34", 0, 1, false), 2);
        Check.due("and ahead of or", weight(x, "no 1 if 1<2 or 1<2 and 2<1", 0, 1, false), 3);
        Check.due("( ahead of all", weight(x, "no 1 if (1<2 or 1<2) and 2<1", 0, 1, false), 2);
        Check.due("not of one ATOM", weight(x, "no 1 if not 2<1 and 2<1", 0, 1, false), 2);
        Check.due("not of (", weight(x, "no 1 if not (2<1 and 2<1)", 0, 1, false), 3);
        Check.due("not not", weight(x, "no 1 if not not 2<1", 0, 1, false), 2);
        Check.refused("both are one", NONE_SUCH, () -> x.weighs(1, 1, true));
        Check.refused("nobody", NOBODY, () -> x.weighs(3, 3, true));
        Check.refused("nobody told", NOBODY, () -> x.weighs(0, -1, true));
        CribLine y = Check.of("person girl age 0;person boy age 0;governs 0 1;governs 1 0");
        y.say(0, 1, false);
        y.say(1, 0, false);
        y.say(1, 0, true);
        y.say(1, 0, false);
        y.say(0, 1, true);
        y.say(0, 1, false);
        Check.due("turns", weight(y, "no 1 if turns > 0", 0, 1, false), 2);
        y.say(0, 1, true);
        for (int i = 0; i < 45; i++) {
            y.say(0, 1, true);
            y.say(0, 1, true);
        }
        Check.due("turns below 0", y.person(1, 1), -1);
        Check.due("turns less than 0 are 0", weight(y, "no 1 if turns < 1 and turns + 1 > 0", 0, 1, false), 2);
    }

    private static void gaps() { // Promises 8, 10
        CribLine x = Check.of("person girl age 0;person boy age 89 permits 2;person boy age 45;person boy age 44");
        Check.due("round the ring", x.gap(0, 1), 1);
        Check.due("the other way", x.gap(1, 0), 1);
        Check.due("the half", x.gap(0, 2), 45);
        Check.due("below the half", x.gap(0, 3), 44);
        Check.due("ahead of the half", x.gap(1, 3), 45);
        Check.refused("both are one", NONE_SUCH, () -> x.gap(1, 1));
        Check.refused("nobody", NOBODY, () -> x.gap(4, 4));
        x.lend(1, 0);
        Check.due("lent", x.lent(1, 0), 1);
        Check.due("not lent", x.lent(0, 1), 0);
        Check.refused("lent: both are one", NONE_SUCH, () -> x.lent(1, 1));
        Check.refused("lent: nobody", NOBODY, () -> x.lent(0, 4));
        Check.refused("lent: nobody below", NOBODY, () -> x.lent(-1, -1));
    }

    public static void main(String[] args) {
        newObject();
        tape();
        familyRight();
        familyWrong();
        lawWrong();
        cut();
        weighs();
        gaps();
        Check.close("TextTest");
    }
}
