import java.lang.management.ManagementFactory;

/** A run of 512 calls makes next to nothing: all of its rows are made with the object. */
public final class RoomTest {
    private static final com.sun.management.ThreadMXBean THREADS =
            (com.sun.management.ThreadMXBean) ManagementFactory.getThreadMXBean();

    private static long room() {
        return THREADS.getThreadAllocatedBytes(Thread.currentThread().getId());
    }

    private static CribLine family() {
        CribLine x = Check.of("ripe 0;person girl age 40 wants 100;person boy age 20 wants 100;person girl age 3 wants 100;person boy age 9 wants 100;"
                + "person girl age 41 wants 100;person boy age 29 wants 100;person girl age 37 wants 100;person boy age 9 wants 100;wed 0 1");
        StringBuilder bonds = new StringBuilder("step 1");
        for (int i = 0; i < 8; i++) {
            bonds.append(";governs ").append((i + 1) % 8).append(' ').append(i);
        }
        Check.family(x, bonds.toString());
        StringBuilder law = new StringBuilder("no 1 if 1<2");
        for (int i = 0; i < 64; i++) {
            law.append("or 2<1");
        }
        Check.law(x, law.toString());
        return x;
    }

    private static int dearest(CribLine x) {
        int sum = x.mild(60) + x.span(100, true) + x.cradle(false, true) + x.again(true) + x.over(1);
        sum += x.fewest(1, 77) + x.first(1, 77) + x.can(1, 20) + x.match(true) + x.mate(1) + x.stable(2) + x.runs();
        sum += x.days(100) + x.trial(100, false) + x.kin(0, 1) + x.odds(1, 3, 1) + x.ahead(1, 100, true);
        x.image();
        sum += x.say(1, 0, true) + (x.undo() ? 1 : 0) + (x.back() ? 1 : 0);
        x.feed(0x01020304, 0x05060708, 0, 0, 0);
        sum += x.ask(1);
        return sum + x.count(7);
    }

    public static void main(String[] args) {
        CribLine x = family();
        dearest(x);
        long before = room();
        long none = room() - before;
        before = room();
        int sum = 0;
        for (int i = 0; i < 22; i++) {
            sum += dearest(x);
        }
        long made = room() - before - none;
        Check.due("bytes that 512 calls make: at most 64 KiB (" + made + ")", made <= 65536, true);
        before = room();
        CribLine y = new CribLine();
        made = room() - before - none;
        Check.due("bytes of a new object: at most 128 KiB (" + made + ")", made <= 131072 && y.count(0) == 0, true);
        System.out.println("made " + made + " bytes with an object; " + sum);
        Check.close("RoomTest");
    }
}
