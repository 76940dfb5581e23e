/** Promises 35 to 39, 41 to 46, 48 to 53: debts, choices, branches, governors, and AGES of all. */
public final class TiesTest {
    private static final Class<IllegalArgumentException> NONE_SUCH = IllegalArgumentException.class;
    private static final Class<IndexOutOfBoundsException> NOBODY = IndexOutOfBoundsException.class;

    private static void debts() { // Promises 35 to 38
        CribLine x = Check.of("person boy age 1 permits 5;person boy age 2 permits 6;person boy age 3;person boy age 3");
        Check.due("the most", x.rich(), 1);
        x.lend(0, 1);
        x.lend(0, 1);
        x.lend(1, 2);
        Check.due("of several the least", x.rich(), 1);
        Check.due("1 owes 0", x.owes(1, 0), 2);
        Check.due("0 owes 1 nothing", x.owes(0, 1), 0);
        Check.due("0 is owed 2; 1 has lent less than it was lent", x.net(), 2);
        Check.due("no RING", x.ring(0), false);
        x.lend(2, 0);
        Check.due("RING of 0", x.ring(0), true);
        Check.due("RING of 2", x.ring(2), true);
        Check.due("no RING of 3", x.ring(3), false);
        Check.due("0 owes 2", x.owes(0, 2), 1);
        Check.due("2 by 1, 1 by 2 ..", x.net(), 1);
        x.lend(1, 0);
        x.lend(1, 0);
        x.lend(1, 0);
        Check.due("0 owes 1 the rest", x.owes(0, 1), 1);
        x.lend(0, 3);
        Check.due("3 owes, but comes back to nobody", x.ring(3), false);
        Check.refused("one", NONE_SUCH, () -> x.owes(1, 1));
        Check.refused("nobody", NOBODY, () -> x.owes(4, 4));
        Check.refused("RING of nobody", NOBODY, () -> x.ring(4));
        Check.due("nobody is rich", new CribLine().rich(), -1);
        Check.due("nobody owes", new CribLine().net(), 0);
        Check.due("none has a PERMIT", Check.of("person boy age 1;person boy age 2").rich(), 0);
    }

    private static void choices() { // Promise 39
        CribLine x = Check.of("step 2;person girl age 40 stern 9;person boy age 20;governs 0 1");
        // STERN 9 by 10 is 0: no is better than yes if asked, yes if not; asking costs 2
        Check.due("none rests", x.rests(0, 1), 0);
        Check.law(x, "calm");
        Check.due("no and asked: all of the other one are alike", x.rests(0, 1), 0b1001);
        CribLine y = Check.of("step 0;person girl age 40 stern 9;person boy age 20;governs 0 1", "no 1");
        Check.due("a yes WEIGHS 0: yes and still", y.rests(0, 1), 0b1000);
        Check.law(y, "yes 1");
        Check.due("a no WEIGHS 0: no and asked", y.rests(0, 1), 0b0001);
        Check.refused("one", NONE_SUCH, () -> y.rests(0, 0));
        Check.refused("does not govern", IllegalStateException.class, () -> y.rests(1, 0));
        Check.refused("nobody", NOBODY, () -> y.rests(2, 2));
    }

    private static void branches() { // Promises 41 to 44
        CribLine x = Check.of("person girl age 10;person boy age 20 of 0;person boy age 5 of 0;person girl age 8 of 1;"
                + "person girl age 30 of 2;person boy age 1 of 3;person boy age 70;person boy age 9 of 4");
        Check.due("itself, children and theirs", x.branch(1), 0b00101010);
        Check.due("all but one", x.branch(0), 0b10111111);
        Check.due("itself alone", x.branch(5), 0b00100000);
        Check.due("the AGES 83 against 70", x.senior(), 6);
        Check.due("up one", x.kin(3, 1), 1);
        Check.due("down three", x.kin(0, 5), 3);
        Check.due("over 0", x.kin(3, 4), 4);
        Check.due("over 0", x.kin(5, 7), 6);
        Check.due("siblings", x.kin(1, 2), 2);
        Check.due("none", x.kin(6, 1), -1);
        Check.due("COUSINS of 3", x.cousins(3), 0b00010000);
        Check.due("COUSINS of 4", x.cousins(4), 0b00001000);
        Check.due("siblings are none", x.cousins(1), 0);
        Check.due("who has no PARENT", x.cousins(6), 0);
        Check.due("another PARENT'S PARENT", x.cousins(5), 0);
        Check.refused("kin of one", NONE_SUCH, () -> x.kin(1, 1));
        Check.refused("kin of nobody", NOBODY, () -> x.kin(8, 8));
        Check.refused("branch of nobody", NOBODY, () -> x.branch(8));
        Check.refused("cousins of nobody", NOBODY, () -> x.cousins(-1));
        Check.due("SENIOR of nobody", new CribLine().senior(), -1);
        Check.due("of several the least", Check.of("person boy age 7;person boy age 3;person boy age 0 of 1;person boy age 3").senior(), 1);
    }

    private static void governors() { // Promises 45, 46
        CribLine x = Check.of("person girl age 1;person boy age 2;person boy age 3;person boy age 4;person boy age 5;"
                + "governs 0 1;governs 1 2;governs 2 0;governs 3 4");
        Check.due("itself, too", x.under(0), 7);
        Check.due("one", x.under(3), 16);
        Check.due("none", x.under(4), 0);
        Check.due("FREE", x.free(), 8);
        x.govern(2, 0, false);
        Check.due("not itself", x.under(0), 6);
        Check.due("FREE", x.free(), 9);
        Check.refused("nobody", NOBODY, () -> x.under(5));
        Check.due("FREE of nobody", new CribLine().free(), 0);
    }

    private static void ages() { // Promises 48 to 53
        CribLine x = Check.of("person boy age 80;person boy age 5;person boy age 4;person boy age 80;person boy age 4;person boy age 4");
        Check.due("TWINS", x.twins(), 4);
        Check.due("MEAN", x.mean(), 29);
        Check.due("OLDEST", x.oldest(), 0);
        Check.due("YOUNGEST", x.youngest(), 2);
        Check.due("CRIB", x.crib(), 0b110100);
        Check.due("SPREAD from 80 to 5", x.spread(), 15);
        Check.due("AGES together", x.count(7), 177);
        Check.family(x, "person boy age 40");
        Check.due("SPREAD from 80 to 40", x.spread(), 50);
        Check.due("SPREAD of one", Check.of("person boy age 40").spread(), 0);
        Check.due("SPREAD of one AGE", Check.of("person boy age 40;person boy age 40").spread(), 0);
        Check.due("SPREAD of the half", Check.of("person boy age 0;person boy age 45").spread(), 45);
        CribLine one = Check.of("person girl age 4");
        Check.due("MEAN of one", one.mean(), 4);
        Check.due("CRIB of one", one.crib(), 1);
        Check.due("OLDEST of one", one.oldest(), 0);
        Check.due("YOUNGEST of one", one.youngest(), 0);
        Check.due("AGES of one", one.count(7), 4);
        Check.due("the least way begins at 0", Check.of("person boy age 10;person boy age 12").spread(), 2);
        CribLine y = new CribLine();
        Check.due("TWINS of nobody", y.twins(), 0);
        Check.due("MEAN of nobody", y.mean(), 0);
        Check.due("OLDEST of nobody", y.oldest(), -1);
        Check.due("YOUNGEST of nobody", y.youngest(), -1);
        Check.due("CRIB of nobody", y.crib(), 0);
        Check.due("SPREAD of nobody", y.spread(), 0);
    }

    public static void main(String[] args) {
        debts();
        choices();
        branches();
        governors();
        ages();
        Check.close("TiesTest");
    }
}
