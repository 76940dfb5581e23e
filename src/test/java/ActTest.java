import java.util.NoSuchElementException;

/** Promises 11 to 18, 57 to 62: the ACTS, THE LOG, what is undone, THE IMAGE. */
public final class ActTest {
    private static final Class<IllegalArgumentException> NONE_SUCH = IllegalArgumentException.class;
    private static final Class<IndexOutOfBoundsException> NOBODY = IndexOutOfBoundsException.class;
    private static final Class<IllegalStateException> CANNOT = IllegalStateException.class;

    private static void row(CribLine x, int ago, int... due) { // Promise 58
        for (int i = 0; i < due.length; i++) {
            Check.due("log " + ago + " " + i, x.log(ago, i), due[i]);
        }
    }

    private static void sayings() { // Promises 11, 57, 58 and SHARE of 7
        CribLine x = Check.of("step 5;day 3;person girl age 30;person boy age 4;person girl age 88;governs 0 1;governs 2 1;governs 1 2");
        Check.due("a no", x.say(0, 1, false), 89);
        Check.due("TURNS", x.person(1, 1), 1);
        row(x, 0, 3, 0, 1, 0, 89);
        Check.due("a yes", x.say(2, 1, true), 4);
        Check.due("TURNS back", x.person(1, 1), 0);
        Check.due("a yes round the ring", x.say(1, 2, true), 3);
        Check.due("TURNS below 0", x.person(2, 1), -1);
        Check.due("TURNS of all", x.count(8), -1);
        row(x, 0, 3, 1, 2, 1, 3);
        row(x, 1, 3, 2, 1, 1, 4);
        row(x, 2, 3, 0, 1, 0, 89);
        row(x, 3, -1, -1, -1, -1, -1);
        row(x, -1, -1, -1, -1, -1, -1);
        Check.due("to 0 without a turn", x.say(0, 1, true), 9);
        Check.due("a no", x.say(0, 1, false), 4);
        Check.due("a no", x.say(1, 2, false), 88);
        Check.due("rows", x.count(11), 6);
        Check.due("SHARE of who said two and was told none", x.person(0, 10), 0);
        Check.due("SHARE of who was told two", x.person(1, 10), 66);
        Check.due("SHARE of who was told one", x.person(2, 10), 33);
        Check.due("led to 1", x.led(1, false), 4);
        Check.due("led to 0", x.led(0, false), 0);
        Check.due("the DAY", x.led(1, true), 3);
        Check.due("no DAY", x.led(0, true), -1);
        Check.refused("does not govern", CANNOT, () -> x.say(0, 2, true));
        Check.refused("to itself", CANNOT, () -> x.say(1, 1, true));
        Check.refused("nobody", NOBODY, () -> x.say(0, 3, true));
        Check.refused("led to nobody", NOBODY, () -> x.led(3, true));
        Check.refused("log what 5", NoSuchElementException.class, () -> x.log(0, 5));
        Check.refused("log what -1 without a row", NoSuchElementException.class, () -> x.log(99, -1));
        Check.due("rows after what was refused", x.count(11), 6);
    }

    private static void limits() { // TURNS 99 and -99, 60 rows, DAY 9999
        CribLine x = Check.of("round 2;step 1;person girl age 0;person boy age 0;governs 0 1;governs 1 0");
        for (int i = 0; i < 205; i++) {
            x.say(0, 1, false);
            x.say(1, 0, true);
        }
        Check.due("99 at most", x.person(1, 1), 99);
        Check.due("- 99 at least", x.person(0, 1), -99);
        Check.due("60 rows", x.count(11), 60);
        row(x, 59, 0, 0, 1, 0);
        row(x, 60, -1, -1);
        Check.due("12 acts", x.count(12), 12);
        CribLine y = Check.of("day 999;person girl age 0");
        for (int i = 0; i < 90; i++) {
            y.days(100);
        }
        Check.due("DAY", y.count(3), 9999);
    }

    private static void births() { // Promise 12
        CribLine x = Check.of("round 61;person girl age 60 wants 9 stern 8 permits 7;person boy age 3");
        Check.due("a girl", x.bear(0, true), 2);
        Check.due("a boy of hers", x.bear(2, false), 3);
        int[] due = {30, 0, 1, 0, -1, 0, 50, 0, 1, 8, 0};
        for (int i = 0; i < due.length; i++) {
            Check.due("born " + i, x.person(2, i), due[i]);
        }
        Check.due("SORT of a boy", x.person(3, 2), 0);
        Check.due("PARENT", x.person(3, 3), 2);
        Check.due("it is governed", x.say(2, 3, true), 31);
        Check.refused("of a boy", CANNOT, () -> x.bear(1, true));
        Check.refused("of nobody", NOBODY, () -> x.bear(4, true));
        for (int i = 4; i < 8; i++) {
            Check.due("born " + i, x.bear(0, i % 2 == 0), i);
        }
        Check.refused("a 9th", CANNOT, () -> x.bear(0, true));
        Check.due("people", x.count(0), 8);
    }

    private static void weddings() { // Promises 13, 14
        CribLine x = Check.of("person girl age 80;person boy age 5 of 0;person boy age 5;person girl age 1;person boy age 9;wed 3 2");
        Check.due("GAP", x.wed(4, 0), 19);
        Check.due("SPOUSE", x.person(0, 4), 4);
        Check.due("SPOUSE", x.person(4, 4), 0);
        Check.due("those with one", x.count(10), 29);
        Check.refused("with a SPOUSE", CANNOT, () -> x.wed(1, 3));
        Check.due("a parting", x.part(2), 3);
        Check.due("no SPOUSE", x.person(2, 4), -1);
        Check.due("no SPOUSE", x.person(3, 4), -1);
        Check.due("the other way", x.part(0), 4);
        Check.refused("PARENT and child", CANNOT, () -> x.wed(0, 1));
        Check.refused("child and PARENT", CANNOT, () -> x.wed(1, 0));
        Check.refused("like SORTS", CANNOT, () -> x.wed(1, 2));
        Check.refused("one", NONE_SUCH, () -> x.wed(1, 1));
        Check.refused("nobody", NOBODY, () -> x.wed(5, 5));
        Check.refused("no SPOUSE to part from", CANNOT, () -> x.part(0));
        Check.refused("a parting of nobody", NOBODY, () -> x.part(-1));
    }

    private static void permits() { // Promises 15, 16
        CribLine x = Check.of("step 20;round 15;person girl age 14 permits 9;person boy age 0 permits 8;person boy age 0 permits 1", "calm");
        Check.due("lent", x.lend(0, 1), 8);
        Check.due("PERMITS of the other one", x.person(1, 7), 9);
        Check.due("LENT", x.lent(0, 1), 1);
        Check.refused("the other one has 9", CANNOT, () -> x.lend(0, 1));
        Check.due("lent", x.lend(2, 0), 0);
        Check.refused("it has none", CANNOT, () -> x.lend(2, 0));
        Check.refused("one", NONE_SUCH, () -> x.lend(2, 2));
        Check.refused("nobody", NOBODY, () -> x.lend(3, 3));
        Check.due("used: STEP by ROUND, whatever THE LAW says", x.use(0), 4);
        Check.due("TURNS", x.person(0, 1), -1);
        Check.due("PERMITS", x.person(0, 7), 8);
        row(x, 0, 0, 0, 0, 1, 4);
        Check.due("led to oneself", x.led(0, false), 1);
        Check.refused("none to use", CANNOT, () -> x.use(2));
        Check.refused("nobody uses", NOBODY, () -> x.use(3));
        for (int i = 0; i < 8; i++) {
            x.use(1);
            x.lend(0, 1);
        }
        Check.due("LENT 9", x.lent(0, 1), 9);
        Check.due("PERMITS", x.person(0, 7), 0);
        x.use(1);
        x.lend(1, 0);
        Check.refused("LENT is 9", CANNOT, () -> x.lend(0, 1));
    }

    private static void lastPermit() { // Promises 15, 16
        CribLine x = Check.of("person girl age 14 permits 1;person boy age 0");
        Check.due("the last one is lent", x.lend(0, 1), 0);
        Check.refused("it has none", CANNOT, () -> x.lend(0, 1));
        Check.due("the last one is used", x.use(1), 1);
        Check.refused("there is none", CANNOT, () -> x.use(1));
        Check.due("LENT stays", x.lent(0, 1), 1);
    }

    private static void rows() { // Promises 57, 58, SHARE: the ring of rows
        CribLine x = Check.of("person girl age 0;person boy age 0;governs 0 1;governs 1 0");
        x.say(0, 1, false);
        Check.due("SHARE of the only no", x.person(1, 10), 100);
        Check.due("no SHARE of who said it", x.person(0, 10), 0);
        Check.due("led by the latest alone", x.led(1, true), 0);
        x.say(1, 0, true);
        Check.due("a yes takes no SHARE", x.person(1, 10), 100);
        Check.due("nor gives any", x.person(0, 10), 0);
        for (int i = 2; i <= 130; i++) {
            x.say(0, 1, true);
            Check.due("rows", x.count(11), Math.min(60, i + 1));
            row(x, 0, 0, 0, 1, 1, (i - 2) % 90);
            if (i > 60) {
                row(x, 59, 0, 0, 1, i == 60 ? 0 : 1, (i - 61 + 90) % 90);
            }
        }
        Check.due("no row of no any more", x.person(1, 10), 0);
        Check.due("TURNS of all: round by a no, twice back by yes", x.count(8), -1);
        x.govern(1, 0, true);
        for (int i = 0; i < 3; i++) {
            x.say(1, 0, false);
        }
        Check.due("AGE 1 by three no", x.person(0, 0), 88);
        Check.due("TURNS of all, of 0, too", x.count(8), 0);
    }

    private static void governing() { // Promises 17, 18
        CribLine x = Check.of("person girl age 14;person boy age 0;governs 0 1");
        Check.due("as it was", x.govern(0, 1, true), false);
        Check.due("no more", x.govern(0, 1, false), true);
        Check.due("nor now", x.govern(0, 1, false), false);
        Check.due("the other way", x.govern(1, 0, true), true);
        Check.due("who governs 0", x.person(0, 8), 2);
        Check.due("whom 1 governs", x.person(1, 9), 1);
        Check.due("acts that change nothing, too", x.count(12), 4);
        Check.refused("one", NONE_SUCH, () -> x.govern(1, 1, true));
        Check.refused("nobody", NOBODY, () -> x.govern(2, 2, true));
        Check.due("STERN was", x.stern(0, 100), 50);
        Check.due("STERN was", x.stern(0, 0), 100);
        Check.due("STERN is", x.person(0, 6), 0);
        Check.refused("above", NONE_SUCH, () -> x.stern(0, 101));
        Check.refused("below", NONE_SUCH, () -> x.stern(0, -1));
        Check.refused("nobody is told", NOBODY, () -> x.stern(2, 101));
        Check.due("acts", x.count(12), 6);
    }

    private static void undone() { // Promises 59, 60
        CribLine x = Check.of("person girl age 40 wants 100 permits 3;person boy age 20 wants 100;governs 0 1;governs 1 0", "no 3");
        Check.due("nothing to undo", x.undo(), false);
        Check.due("SEED at first", x.seed(5), 1);
        x.wed(0, 1);
        x.use(0);
        x.lend(0, 1);
        x.bear(0, true);
        x.days(30);
        Check.due("SEED has gone on", x.seed(9) == 5, false);
        Check.due("acts", x.count(12), 5);
        Check.tape(x, "no");
        Check.refused("a wrong text", NONE_SUCH, x::law);
        Check.due("acts are still remembered", x.count(12), 5);
        Check.due("undone", x.undo(), true);
        Check.due("DAY", x.count(3), 0);
        Check.due("rows", x.count(11), 1);
        Check.due("SEED is as ahead of it", x.seed(5), 5);
        Check.due("fault stays", x.fault(), 2);
        x.undo();
        Check.due("people", x.count(0), 2);
        Check.due("governed by 0", x.person(0, 9), 2);
        x.undo();
        Check.due("LENT", x.lent(0, 1), 0);
        Check.due("PERMITS", x.person(0, 7), 2);
        x.undo();
        Check.due("AGE", x.person(0, 0), 40);
        Check.due("no row", x.log(0, 0), -1);
        x.undo();
        Check.due("no SPOUSE", x.count(10), 0);
        Check.due("no act", x.count(12), 0);
        Check.due("none", x.undo(), false);
        for (int i = 0; i < 13; i++) {
            x.stern(0, i);
        }
        for (int i = 0; i < 12; i++) {
            Check.due("undone", x.undo(), true);
        }
        Check.due("the 13th is not remembered", x.undo(), false);
        Check.due("STERN", x.person(0, 6), 0);
        x.stern(0, 3);
        Check.law(x, "");
        Check.due("none remembered behind a text", x.undo(), false);
        x.stern(0, 4);
        Check.family(x, "");
        Check.due("none remembered behind a text", x.count(12), 0);
    }

    private static void images() { // Promises 61, 62
        CribLine x = Check.of("step 4;person girl age 40;person boy age 20;governs 0 1");
        Check.due("none kept", x.back(), false);
        x.stern(0, 8);
        Check.due("nothing happens", x.count(12), 1);
        x.say(0, 1, false);
        x.seed(77);
        x.image();
        Check.due("acts", x.count(12), 2);
        Check.law(x, "no 3");
        Check.family(x, "step 9;person boy age 0");
        x.say(0, 1, false);
        x.undo();
        x.say(0, 1, false);
        Check.due("AGE", x.person(1, 0), 4);
        x.feed(0x73746570, 0x20370000, 0, 0, 0);
        Check.due("back", x.back(), true);
        Check.due("AGE", x.person(1, 0), 16);
        Check.due("people", x.count(0), 2);
        Check.due("texts", x.count(1), 1);
        Check.due("no LAW", x.count(2), -1);
        Check.due("STEP", x.count(6), 4);
        Check.due("a no WEIGHS", x.weighs(0, 1, false), 4);
        Check.due("rows", x.count(11), 1);
        Check.due("none remembered", x.undo(), false);
        Check.due("SEED", x.seed(78), 77);
        x.end(6);
        Check.due("the TAPE stays", x.family(), 2);
        Check.due("STEP", x.count(6), 7);
        Check.due("back again", x.back(), true);
        Check.due("STEP", x.count(6), 4);
    }

    public static void main(String[] args) {
        sayings();
        limits();
        births();
        weddings();
        permits();
        lastPermit();
        rows();
        governing();
        undone();
        images();
        Check.close("ActTest");
    }
}
