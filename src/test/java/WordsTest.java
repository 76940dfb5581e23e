/** Promises 20 to 25, 29 and 30: what words would make of one, and who said what. */
public final class WordsTest {
    private static final Class<IllegalArgumentException> NONE_SUCH = IllegalArgumentException.class;
    private static final Class<IndexOutOfBoundsException> NOBODY = IndexOutOfBoundsException.class;

    private static void would() { // Promise 20
        CribLine x = Check.of("step 2;person girl age 1;person boy age 89;governs 0 1", "no 3 if crib;yes 1");
        Check.due("a no round the ring", x.would(1, 0, false), 86);
        Check.due("a yes, though it is not governed", x.would(1, 0, true), 4);
        Check.due("a yes round the ring", x.would(0, 1, true), 2);
        Check.due("nothing is said", x.person(1, 0), 89);
        Check.refused("one", NONE_SUCH, () -> x.would(1, 1, true));
        Check.refused("nobody", NOBODY, () -> x.would(2, 2, true));
    }

    private static void reached() { // Promises 21, 22, 23
        // a no of 1 takes 3 off, of 2 it takes 10 off; a yes puts 3 on
        CribLine x = Check.of("step 3;person boy age 50;person girl age 1;person girl age 2;governs 1 0;governs 2 0", "no 7 if who > 1");
        Check.due("as it is", x.fewest(0, 50), 0);
        Check.due("no first of none", x.first(0, 50), -1);
        Check.due("3 less", x.fewest(0, 47), 1);
        Check.due("a no of 1", x.first(0, 47), 2);
        Check.due("3 more", x.first(0, 53), 3);
        Check.due("10 less", x.first(0, 40), 4);
        Check.due("7 less", x.fewest(0, 43), 2);
        Check.due("the yes of 1 ahead of the no of 2", x.first(0, 43), 3);
        Check.due("20 less", x.first(0, 30), 4);
        Check.due("1 less", x.fewest(0, 49), 4);
        Check.due("three yes of 1 and the no of 2", x.first(0, 49), 3);
        Check.due("N 0", x.can(0, 0), 1);
        Check.due("N 1: 47, 53, 40", x.can(0, 1), 4);
        Check.due("N 2: 44, 37, 56, 43, 30", x.can(0, 2), 9);
        Check.due("all", x.can(0, 20), 90);
        Check.due("who is not governed", x.can(1, 20), 1);
        Check.due("cannot be", x.fewest(1, 2), -1);
        Check.due("nor first", x.first(1, 2), -1);
        Check.due("AGE 0", x.fewest(0, 0), 5);
        Check.due("first to AGE 0", x.first(0, 0), 4);
        Check.due("AGE 89", x.fewest(0, 89), 9);
        Check.due("first to AGE 89", x.first(0, 89), 3);
        Check.refused("AGE 90", NONE_SUCH, () -> x.fewest(0, 90));
        Check.refused("AGE -1", NONE_SUCH, () -> x.fewest(0, -1));
        Check.refused("AGE 90", NONE_SUCH, () -> x.first(0, 90));
        Check.refused("AGE -1", NONE_SUCH, () -> x.first(0, -1));
        Check.refused("N 21", NONE_SUCH, () -> x.can(0, 21));
        Check.refused("N -1", NONE_SUCH, () -> x.can(0, -1));
        Check.refused("nobody", NOBODY, () -> x.fewest(3, 90));
        Check.refused("nobody", NOBODY, () -> x.first(3, 90));
        Check.refused("nobody", NOBODY, () -> x.can(-1, 21));
        // THE LAW by the AGE as it comes to be: below 5 one is out of reach
        CribLine y = Check.of("step 2;person boy age 8;person girl age 1;governs 1 0", "calm if crib;no 1 if age < 7");
        Check.due("8, 6, 3", y.fewest(0, 3), 2);
        Check.due("none out of the CRIB", y.fewest(0, 1), -1);
        Check.due("TURNS stay as now", y.person(0, 1), 0);
        CribLine z = Check.of("step 1;round 3;person boy age 0;person girl age 1;governs 1 0", "calm if turns > 0");
        Check.due("by AGE alone", z.fewest(0, 1), 1);
        Check.due("a yes", z.first(0, 1), 3);
        Check.due("a no", z.first(0, 2), 2);
        z.say(1, 0, false);
        Check.due("TURNS are 1", z.fewest(0, 1), -1);
    }

    private static void heaviest() { // Promises 24, 25
        CribLine x = Check.of("person boy age 50;person girl age 1;person girl age 2;person girl age 3;governs 2 0;governs 3 0",
                "no 7 if who > 0;yes 2 if who > 2");
        Check.due("the least of several", x.harsh(0), 2);
        Check.due("by yes", x.kind(0), 3);
        Check.due("nobody governs it", x.harsh(1), -1);
        Check.due("nobody governs it", x.kind(1), -1);
        Check.law(x, "calm");
        Check.due("of 0, too", x.harsh(0), 2);
        Check.refused("nobody", NOBODY, () -> x.harsh(4));
        Check.refused("nobody", NOBODY, () -> x.kind(-1));
    }

    private static int said(CribLine x, int who, int... seen) {
        Check.tape(x, seen);
        return x.said(who);
    }

    private static int asked(CribLine x, int who, int... seen) {
        Check.tape(x, seen);
        return x.ask(who);
    }

    private static void seen() { // Promises 29, 30
        // of 1: no 2 (3), yes 3 (3); of 2: no 4 (10 in the CRIB, else 3), yes 5 (3)
        CribLine x = Check.of("step 3;person boy age 50;person girl age 1;person girl age 2;governs 1 0;governs 2 0", "no 7 if who > 1 and crib");
        Check.due("none told", said(x, 0), 0b111100);
        Check.due("a no", said(x, 0, 50, 47), 0b010100);
        Check.due("a no of 1", said(x, 0, 50, 47, 4, 1), 0b000100);
        Check.due("a no of 2", said(x, 0, 50, 47, 4, 84), 0b010000);
        Check.due("nobody", said(x, 0, 50, 47, 4, 7), 0);
        Check.due("a yes round the ring", said(x, 0, 89, 2), 0b101000);
        Check.due("who is not governed", said(x, 1), 0);
        Check.due("the least AGE at which the no are parted", asked(x, 0, 50, 47), 0);
        Check.due("of four the greatest part is 2 at best", asked(x, 0), 0);
        Check.due("fewer than two", asked(x, 0, 50, 47, 4, 1), -1);
        Check.due("none fits", asked(x, 0, 50, 49), -1);
        Check.law(x, "no 7 if who > 1 and age > 70 and age < 73");
        Check.due("asked at 71", asked(x, 0, 50, 47), 71);
        Check.due("two yes are never parted", asked(x, 0, 50, 53), 0);
        CribLine y = Check.of("step 3;person girl age 1;person girl age 2;person boy age 50;governs 0 2;governs 1 2", "no 7 if who > 0 and age > 70 and age < 73");
        Check.due("SAYINGS of 0, too", said(y, 2, 50, 47), 0b0101);
        Check.due("asked at 71", asked(y, 2, 50, 47), 71);
        Check.due("the two yes stay together wherever it is asked", asked(y, 2), 0);
        Check.due("fault is of texts", x.fault(), -1);
        Check.refused("an odd byte", NONE_SUCH, () -> said(x, 0, 50));
        Check.refused("no AGE", NONE_SUCH, () -> said(x, 0, 90, 2));
        Check.refused("no AGE behind", NONE_SUCH, () -> said(x, 0, 2, 90));
        Check.refused("an odd byte", NONE_SUCH, () -> asked(x, 0, 50, 47, 3));
        Check.refused("byte 255", NONE_SUCH, () -> asked(x, 0, 255, 47));
        int[] forty = new int[40];
        for (int i = 0; i < 40; i += 2) {
            forty[i] = 50 + i / 2;
            forty[i + 1] = 47 + i / 2;
        }
        Check.due("40 bytes", said(x, 0, forty), 0b010100);
        Check.due("40 bytes", asked(x, 0, forty), 71);
        int[] more = java.util.Arrays.copyOf(forty, 42);
        Check.refused("42 bytes", NONE_SUCH, () -> said(x, 0, more));
        Check.due("the TAPE is used up", x.end(1), false);
        Check.refused("42 bytes", NONE_SUCH, () -> asked(x, 0, more));
        Check.due("the TAPE is used up", x.end(1), false);
        Check.refused("nobody", NOBODY, () -> said(x, 3, 1));
        Check.due("the TAPE is used up", x.end(1), false);
        Check.refused("nobody", NOBODY, () -> asked(x, 3, 1));
        Check.due("the TAPE is used up", x.end(1), false);
    }

    public static void main(String[] args) {
        would();
        reached();
        heaviest();
        seen();
        Check.close("WordsTest");
    }
}
