/** Promises 31 to 34: the best matching, the stable one, and who would run off. */
public final class PairsTest {
    private static final Class<IndexOutOfBoundsException> NOBODY = IndexOutOfBoundsException.class;

    private static void mates(String what, CribLine x, int... due) {
        for (int i = 0; i < due.length; i++) {
            Check.due(what + " of " + i, x.mate(i), due[i]);
        }
    }

    private static void stables(String what, CribLine x, int... due) {
        for (int i = 0; i < due.length; i++) {
            Check.due(what + " of " + i, x.stable(i), due[i]);
        }
    }

    private static void best() { // Promises 31, 32
        // the nearest for 0 is 2, but then 1 goes far: 10 + 20 is less than 2 + 40
        CribLine x = Check.of("person boy age 30;person boy age 50;person girl age 32;person girl age 10");
        Check.due("how many", x.match(false), 2);
        Check.due("GAPS", x.match(true), 38);
        mates("MATE", x, 3, 2, 1, 0);
        stables("STABLE", x, 2, 3, 0, 1);
        // as many as can be goes ahead of GAPS
        CribLine y = Check.of("person girl age 30;person boy age 30;person boy age 29 of 0;person girl age 80");
        Check.due("how many", y.match(false), 2);
        Check.due("GAPS", y.match(true), 39);
        mates("MATE", y, 1, 0, 3, 2);
        // of several: boy by boy the least girl, and a boy in a pair ahead of one without
        CribLine z = Check.of("person girl age 10;person boy age 20;person boy age 20;person girl age 30");
        Check.due("GAPS", z.match(true), 20);
        mates("the least girl", z, 1, 0, 3, 2);
        CribLine w = Check.of("person boy age 20;person boy age 20;person girl age 30");
        mates("none behind all girls", w, 2, -1, 0);
        CribLine v = Check.of("person boy age 20;person girl age 30;person girl age 10;wed 0 2;person boy age 0");
        Check.due("without a SPOUSE", v.match(false), 1);
        mates("without a SPOUSE", v, -1, 3, -1, 1);
        Check.refused("nobody", NOBODY, () -> v.mate(4));
        Check.due("of nobody", new CribLine().match(false), 0);
        Check.due("GAPS of nobody", new CribLine().match(true), 0);
        CribLine u = Check.of("person boy age 20;person girl age 30 of 0");
        Check.due("PARENT and child", u.match(false), 0);
        mates("PARENT and child", u, -1, -1);
        stables("PARENT and child", u, -1, -1);
    }

    private static void stable() { // Promise 33
        // 0 and 1 both ask 3; she keeps 1; 0 goes on to 4, who leaves 2; 2 goes on to 5
        CribLine x = Check.of("person boy age 28;person boy age 31;person boy age 45;person girl age 30;person girl age 36;person girl age 60");
        stables("STABLE", x, 4, 3, 5, 1, 0, 2);
        CribLine y = Check.of("person boy age 28;person boy age 32;person girl age 30");
        stables("of several the least boy", y, 2, -1, 0);
        CribLine z = Check.of("person girl age 28;person girl age 32;person boy age 30");
        stables("of several the least girl", z, 2, -1, 0);
        CribLine w = Check.of("person girl age 28;person girl age 32;person boy age 29;wed 2 0;person boy age 1 of 1");
        stables("none can be", w, -1, -1, -1, -1);
        Check.refused("nobody", NOBODY, () -> w.stable(4));
        Check.refused("nobody", NOBODY, () -> w.stable(-1));
    }

    private static void runs() { // Promise 34
        CribLine x = Check.of("person boy age 30;person girl age 50;person boy age 60;person girl age 31;wed 0 1;wed 2 3");
        Check.due("0 and 3, 2 and 1", x.runs(), 2);
        x.part(0);
        Check.due("0 and 1, 0 and 3, 2 and 1", x.runs(), 3);
        CribLine y = Check.of("person boy age 30;person girl age 20;person boy age 40;person girl age 40;wed 0 1;wed 2 3");
        Check.due("as near is not nearer", y.runs(), 0);
        CribLine z = Check.of("person boy age 30;person girl age 30 of 0;person girl age 0 of 1;person boy age 0");
        Check.due("0 and 2, 3 and 1, 3 and 2", z.runs(), 3);
        Check.due("of nobody", new CribLine().runs(), 0);
    }

    public static void main(String[] args) {
        best();
        stable();
        runs();
        Check.close("PairsTest");
    }
}
