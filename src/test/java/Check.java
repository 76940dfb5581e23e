import java.nio.charset.StandardCharsets;

/** What the tests share: answers that are due, and texts that are put on the TAPE. */
final class Check {
    private static int asked = 0;
    private static int wrong = 0;
    private static String test = "";

    private Check() {
    }

    /** The name of the test that is run, told ahead of whatever it finds wrong. */
    static void test(String name) {
        test = name + ": ";
    }

    static void due(String what, long got, long want) {
        asked++;
        if (got != want) {
            wrong++;
            System.out.println(test + what + " answered " + got + ", due is " + want);
        }
    }

    static void due(String what, boolean got, boolean want) {
        due(what, got ? 1 : 0, want ? 1 : 0);
    }

    static void refused(String what, Class<? extends RuntimeException> kind, Runnable call) {
        asked++;
        String got = "nothing";
        try {
            call.run();
        } catch (RuntimeException e) {
            got = e.getClass().getSimpleName();
        }
        if (!got.equals(kind.getSimpleName())) {
            wrong++;
            System.out.println(test + what + " threw " + got + ", due is " + kind.getSimpleName());
        }
    }

    static void bytes(CribLine x, byte[] bytes) {
        int behind = 0;
        for (int i = 0; i < bytes.length; i += 20) {
            int[] n = new int[5];
            for (int k = 0; k < 20; k++) {
                int b = i + k < bytes.length ? bytes[i + k] & 255 : 0;
                n[k / 4] = n[k / 4] << 8 | b;
            }
            behind = x.feed(n[0], n[1], n[2], n[3], n[4]);
            if (behind < 0) {
                throw new IllegalStateException("the text is too long for the TAPE");
            }
        }
        x.end(bytes.length);
    }

    static void tape(CribLine x, String text) {
        bytes(x, text.getBytes(StandardCharsets.ISO_8859_1));
    }

    static void tape(CribLine x, int... bytes) {
        byte[] all = new byte[bytes.length];
        for (int i = 0; i < all.length; i++) {
            all[i] = (byte) bytes[i];
        }
        bytes(x, all);
    }

    static int family(CribLine x, String text) {
        tape(x, text);
        return x.family();
    }

    static int law(CribLine x, String text) {
        tape(x, text);
        return x.law();
    }

    static CribLine of(String family) {
        CribLine x = new CribLine();
        family(x, family);
        return x;
    }

    static CribLine of(String family, String law) {
        CribLine x = of(family);
        law(x, law);
        return x;
    }

    static void wrongFamily(CribLine x, String text, int place) {
        tape(x, text);
        refused("family '" + text + "'", IllegalArgumentException.class, x::family);
        due("fault of family '" + text + "'", x.fault(), place);
    }

    static void wrongLaw(CribLine x, String text, int place) {
        tape(x, text);
        refused("law '" + text + "'", IllegalArgumentException.class, x::law);
        due("fault of law '" + text + "'", x.fault(), place);
    }

    /** The last call of a test's main. */
    static void close(String name) {
        System.out.println(name + ": " + asked + " answers, " + wrong + " wrong");
        if (wrong != 0 || asked == 0) {
            System.exit(1);
        }
    }
}
