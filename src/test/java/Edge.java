import java.lang.reflect.InvocationTargetException;
import java.lang.reflect.Method;
import java.lang.reflect.Modifier;
import java.util.Arrays;
import java.util.Comparator;
import java.util.function.Consumer;
import java.util.function.Supplier;

/** What the tests of boundary cases share: each static method of a class is one test, and is found by itself. */
final class Edge {
    static final Class<IllegalArgumentException> NONE_SUCH = IllegalArgumentException.class;
    static final Class<IndexOutOfBoundsException> NOBODY = IndexOutOfBoundsException.class;
    static final Class<IllegalStateException> CANNOT = IllegalStateException.class;
    static final Class<java.util.NoSuchElementException> NO_WHAT = java.util.NoSuchElementException.class;
    static final Class<UnsupportedOperationException> TOO_MANY = UnsupportedOperationException.class;

    private static final int MIN = Integer.MIN_VALUE;
    private static final int MAX = Integer.MAX_VALUE;

    private Edge() {
    }

    /** Runs all tests of a class; no list of them can be forgotten. */
    static void run(Class<?> tests) throws ReflectiveOperationException {
        Method[] all = tests.getDeclaredMethods();
        Arrays.sort(all, Comparator.comparing(Method::getName));
        for (Method m : all) {
            boolean isTest = Modifier.isStatic(m.getModifiers()) && m.getParameterCount() == 0
                    && m.getReturnType() == void.class && !m.isSynthetic();
            if (!isTest) continue;
            m.setAccessible(true);
            Check.test(m.getName());
            try {
                m.invoke(null);
            } catch (InvocationTargetException e) {
                e.getCause().printStackTrace(System.out);
                Check.due("a call that should not throw", 1, 0);
            }
        }
        Check.close(tests.getSimpleName());
    }

    /** Numbers that are below the least or above the most. */
    static int[] outside(int least, int most) {
        return new int[] {least - 1, most + 1, MIN, MAX, least - 256, most + 256};
    }

    // ---- texts: where ^ stands in one is its first wrong byte

    static void wrongFamily(CribLine x, String marked) {
        Check.wrongFamily(x, marked.replace("^", ""), marked.indexOf('^'));
    }

    static void wrongLaw(CribLine x, String marked) {
        Check.wrongLaw(x, marked.replace("^", ""), marked.indexOf('^'));
    }

    static void wrongFamily(String marked) {
        wrongFamily(new CribLine(), marked);
    }

    static void wrongLaw(String marked) {
        wrongLaw(new CribLine(), marked);
    }

    /** Of a text that is right: what a new object is behind it. */
    static CribLine right(String family) {
        CribLine x = new CribLine();
        Check.due("family '" + family + "'", Check.family(x, family), 1);
        Check.due("fault of family '" + family + "'", x.fault(), -1);
        return x;
    }

    static void rightLaw(String law, int lines) {
        CribLine x = new CribLine();
        Check.due("law '" + law + "'", Check.law(x, law), lines);
        Check.due("fault of law '" + law + "'", x.fault(), -1);
        Check.due("count(2) of law '" + law + "'", x.count(2), lines);
    }

    // ---- all that can be seen of an object

    static String state(CribLine x) {
        StringBuilder b = new StringBuilder();
        for (int i = 0; i <= 12; i++) b.append(x.count(i)).append(' ');
        int n = x.count(0);
        for (int p = 0; p < n; p++) {
            b.append("\n").append(p).append(": ");
            for (int i = 0; i <= 10; i++) b.append(x.person(p, i)).append(' ');
            for (int o = 0; o < n; o++) {
                if (o == p) continue;
                b.append(x.lent(p, o)).append('/').append(x.weighs(p, o, false)).append('/').append(x.weighs(p, o, true)).append(' ');
            }
        }
        for (int ago = 0; ago <= x.count(11); ago++) {
            b.append("\nlog ").append(ago);
            for (int i = 0; i < 5; i++) b.append(' ').append(x.log(ago, i));
        }
        int seed = x.seed(0);
        x.seed(seed);
        return b.append("\nseed ").append(seed).toString();
    }

    static void alike(String what, String got, String want) {
        String[] is = got.split("\n");
        String[] due = want.split("\n");
        for (int i = 0; i < Math.min(is.length, due.length); i++) {
            if (!is[i].equals(due[i])) {
                System.out.println(what + ": is '" + is[i] + "', due is '" + due[i] + "'");
                break;
            }
        }
        Check.due(what + " is alike", got.equals(want), true);
    }

    /** Of two objects all that is seen but fault(), what is undone, THE IMAGE and the TAPE; it uses both up. */
    static void same(String what, CribLine x, CribLine y) {
        alike(what, state(x), state(y));
        for (int i = 1; i <= 13; i++) {
            boolean was = y.undo();
            Check.due(what + ", undo " + i, x.undo(), was);
            alike(what + ", behind undo " + i, state(x), state(y));
        }
        Check.due(what + ", back", x.back(), y.back());
        alike(what + ", behind back", state(x), state(y));
        Check.due(what + ", bytes on the TAPE", onTape(x), onTape(y));
        Check.due(what + ", the TAPE as a text", textOnTape(x), textOnTape(y));
        alike(what + ", behind the TAPE's text", state(x), state(y));
    }

    private static int textOnTape(CribLine x) {
        try {
            return x.family();
        } catch (IllegalArgumentException | UnsupportedOperationException e) {
            return -2 - x.fault();
        }
    }

    static int onTape(CribLine x) {
        for (int n = 400; n >= 0; n--) {
            if (x.end(n)) return n;
        }
        return -1;
    }

    /** A call that throws changes nothing; not the TAPE nor fault() either. */
    static void refused(String what, Class<? extends RuntimeException> kind, Supplier<CribLine> make, Consumer<CribLine> call) {
        CribLine x = make.get();
        int fault = x.fault();
        Check.refused(what, kind, () -> call.accept(x));
        Check.due(what + ", fault", x.fault(), fault);
        same(what, x, make.get());
    }

    /** A call that reads the TAPE and throws changes nothing but the TAPE, which is used up, and the fault that is due. */
    static void refusedText(String what, Class<? extends RuntimeException> kind, int fault, Supplier<CribLine> make, Consumer<CribLine> call) {
        CribLine x = make.get();
        Check.refused(what, kind, () -> call.accept(x));
        Check.due(what + ", fault", x.fault(), fault);
        CribLine y = make.get();
        y.end(0);
        same(what, x, y);
    }

    // ---- DRAWS, worked out without the class

    static int seedBehind(int seed, int draws) {
        long s = seed & 0xFFFFFFFFL;
        for (int i = 0; i < draws; i++) s = (1103515245L * s + 12345) % 4294967296L;
        return (int) s;
    }

    static int draw(int seed, int nth) {
        long s = seedBehind(seed, nth) & 0xFFFFFFFFL;
        return (int) (s / 65536 % 32768);
    }
}
