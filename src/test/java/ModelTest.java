import java.lang.reflect.InvocationTargetException;
import java.lang.reflect.Method;
import java.util.ArrayList;
import java.util.Arrays;
import java.util.List;

/** Long runs of calls on the class and on the Model, side by side; draws of its own, always the same. */
public final class ModelTest {
    private static long draw = 1;

    private static int below(int n) {
        draw = draw * 6364136223846793005L + 1442695040888963407L;
        return (int) ((draw >>> 33) % n);
    }

    private static boolean chance(int percent) {
        return below(100) < percent;
    }

    private static String pick(String... of) {
        return of[below(of.length)];
    }

    private static String blanks() {
        return chance(80) ? " " : "  ".substring(below(3));
    }

    private static String familyLine(int people) {
        int known = Math.max(1, people);
        switch (below(people < 2 ? 2 : 9)) {
            case 0: case 1: case 2: case 3:
                return "person " + pick("boy", "girl") + " age" + blanks() + below(chance(5) ? 120 : 60)
                        + (people > 0 && chance(50) ? " of " + below(known) : "")
                        + (chance(60) ? " wants " + pick("100", "50", "0", "80", "101") : "")
                        + (chance(50) ? " stern " + pick("100", "60", "0", "7", "33") : "")
                        + (chance(40) ? " permits " + below(10) : "");
            case 4: case 5: case 6:
                return "governs " + below(known) + " " + below(known);
            case 7:
                return "wed " + below(known) + " " + below(known);
            default:
                return pick("round", "ripe", "step", "day") + " " + pick("2", "5", "90", "99", "12", "0", "61", "20", "999", "1", "7");
        }
    }

    private static String family(int people) {
        StringBuilder b = new StringBuilder();
        int lines = chance(5) ? 15 : 1 + below(10);
        for (int i = 0; i < lines; i++) {
            String line = familyLine(people);
            // too many that cannot be would leave no family at all
            if (line.startsWith("person") && people >= 8 && chance(95)) continue;
            if (line.startsWith("person")) people++;
            if (b.length() > 0) b.append(';').append(blanks());
            b.append(line);
        }
        return spoiled(b.toString());
    }

    /** People who are right, whatever else comes. */
    private static String people() {
        int n = 2 + below(7);
        int ages = chance(30) ? 8 : 60;
        StringBuilder b = new StringBuilder();
        for (int i = 0; i < n; i++) {
            b.append(i > 0 ? ";" : "").append("person ").append(pick("boy", "girl")).append(" age ").append(below(ages));
            if (i > 0 && chance(60)) b.append(" of ").append(below(i));
            if (chance(70)) b.append(" wants ").append(pick("100", "50", "30"));
            if (chance(70)) b.append(" stern ").append(pick("100", "60", "0", "7", "33", "10"));
            if (chance(70)) b.append(" permits ").append(below(10));
        }
        return b.toString();
    }

    private static String bonds(Model m) {
        int n = m.s.all.size();
        StringBuilder b = new StringBuilder(pick("step 1", "step 2", "step 7", "step 20", "ripe 0", "ripe 1", "round 61", "round 99"));
        for (int i = 0; i < 12; i++) {
            int one = below(n);
            int two = below(n);
            if (one == two) continue;
            boolean wed = i < 3 && m.s.one(one).sort != m.s.one(two).sort && !m.s.related(one, two) && b.indexOf("wed") < 0;
            b.append(wed ? ";wed " : ";governs ").append(one).append(" ").append(two);
        }
        return b.toString();
    }

    private static String part() {
        return chance(40) ? String.valueOf(below(100)) : pick("who", "whom", "age", "elder", "turns", "day", "1000", "0");
    }

    private static String condition(int deep) {
        switch (below(9)) {
            case 0: return "not " + condition(deep + 1);
            case 1: return "(" + condition(deep + 1) + ")";
            case 2: return condition(deep + 1) + " and " + condition(deep + 1);
            case 3: return condition(deep + 1) + " or " + condition(deep + 1);
            case 4: return pick("wed", "kin", "crib");
            default:
                String left = part(), right = part();
                while (chance(25)) left += blanks() + "+" + part();
                while (chance(25)) right += "+" + part();
                return left + pick("<", ">", " < ", " > ") + right;
        }
    }

    private static String law() {
        StringBuilder b = new StringBuilder();
        int lines = chance(5) ? 13 : below(6);
        for (int i = 0; i < lines; i++) {
            if (i > 0) b.append(pick(";", "; ", " ;"));
            String kind = pick("no ", "yes ", "no ", "yes ", "calm");
            b.append(kind).append(kind.equals("calm") ? "" : below(chance(3) ? 99 : 61));
            if (chance(60)) b.append(" if ").append(condition(0));
        }
        return spoiled(b.toString());
    }

    private static String spoiled(String text) {
        StringBuilder b = new StringBuilder(text);
        if (chance(20) && b.length() > 0) {
            int at = below(b.length());
            switch (below(3)) {
                case 0: b.deleteCharAt(at); break;
                case 1: b.insert(at, pick(" ", "x", "(", ")", "9", ";", "+", "not ", "if", "\u00e9", "<", "\n")); break;
                default: b.setLength(at);
            }
        }
        if (b.length() > 400) b.setLength(400);
        return b.toString();
    }


    private static String sightings(Model m) {
        StringBuilder b = new StringBuilder();
        int n = chance(3) ? 18 + below(5) : below(3);
        int all = m.s.all.size();
        int who = below(Math.max(1, all)), whom = below(Math.max(1, all));
        boolean yes = chance(50);
        for (int i = 0; i < n; i++) {
            int age = below(m.s.round);
            int behind = below(m.s.round);
            if (chance(90) && who != whom) {
                Model.State t = m.s.copy();
                t.one(whom).age = age;
                t.move(who, whom, yes, t.weighs(who, whom, yes));
                behind = t.one(whom).age;
            }
            b.append((char) age).append((char) behind);
        }
        if (chance(3)) b.append((char) below(256));
        if (chance(3)) b.append((char) m.s.round).append((char) 0);
        return b.toString();
    }

    private static void tape(CribLine x, Model m, String text) {
        for (int i = 0; i < text.length(); i += 20) {
            int[] n = new int[5];
            for (int k = 0; k < 20; k++) {
                int c = i + k < text.length() ? text.charAt(i + k) : 0;
                n[k / 4] = n[k / 4] << 8 | c;
            }
            Check.due("feed", x.feed(n[0], n[1], n[2], n[3], n[4]), m.feed(n));
        }
        Check.due("end", x.end(text.length()), m.end(text.length()));
    }

    private static Object argument(Class<?> type, String name, int index, int people) {
        if (type == boolean.class) return chance(50);
        if (name.equals("seed")) return below(1 << 30) * 4 + below(9);
        if (name.equals("days")) return pickNumber(1, 3, 10, 100, 0, 101, 5, 20);
        if (name.equals("mild")) return pickNumber(1, 3, 10, 60, 0, 61, 5, -1);
        if (name.equals("log")) return below(7) - 1 + (index == 0 && chance(20) ? 55 : 0);
        if (name.equals("count")) return below(15) - 1;
        if (index == 1 && name.equals("person")) return below(13) - 1;
        if (index == 1 && (name.equals("fewest") || name.equals("first"))) return below(104) - 2;
        if (index == 1 && name.equals("can")) return below(24) - 1;
        if (index == 1 && name.equals("stern")) return chance(80) ? below(101) : pickNumber(-1, 101, 0, 100);
        if (index > 0 && name.equals("odds")) return below(6) - 1;
        if (index == 1 && name.equals("ahead") || name.equals("trial") || name.equals("span")) return pickNumber(0, 1, 2, 7, 30, 100, 101, -1);
        return chance(97) && people > 0 ? below(people) : below(10) - 1;
    }

    private static int pickNumber(int... of) {
        return of[below(of.length)];
    }

    private static Object answer(Object it, Method call, Object[] arguments) throws ReflectiveOperationException {
        try {
            return call.invoke(it, arguments);
        } catch (InvocationTargetException e) {
            return e.getCause().getClass().getSimpleName();
        }
    }

    private static void same(String what, Object got, Object want) {
        boolean alike = got == null ? want == null : got.equals(want);
        Check.due(what + " (" + got + " against " + want + ")", alike, true);
    }

    private static void sameState(String what, CribLine x, Model m) {
        for (int i = 0; i <= 12; i++) Check.due(what + " count " + i, x.count(i), m.count(i));
        for (int p = 0; p < m.s.all.size(); p++) {
            for (int i = 0; i <= 10; i++) Check.due(what + " person " + p + " " + i, x.person(p, i), m.person(p, i));
            for (int o = 0; o < m.s.all.size(); o++) if (o != p) Check.due(what + " lent", x.lent(p, o), m.lent(p, o));
        }
        for (int ago = 0; ago <= 60; ago++) {
            for (int i = 0; i < 5; i++) Check.due(what + " log " + ago + " " + i, x.log(ago, i), m.log(ago, i));
        }
        Check.due(what + " fault", x.fault(), m.fault());
    }

    private static final List<String> ACTS = List.of("say", "bear", "wed", "part", "lend", "use", "govern", "stern", "days", "undo", "image", "back", "seed");

    private static void run(int number, Method[] calls, Method[] twins) throws ReflectiveOperationException {
        CribLine x = new CribLine();
        Model m = new Model();
        for (int k = 0; k < 120; k++) {
            int c = below(calls.length);
            String name = calls[c].getName();
            if (k > 2 && ACTS.contains(name) != chance(50) && chance(50)) continue;
            if (k == 0 || k == 1) {
                tape(x, m, k == 0 ? people() : bonds(m));
                name = "family";
            } else if (name.equals("family")) {
                tape(x, m, family(m.s.all.size()));
            } else if (k % 40 == 2 || name.equals("law")) {
                tape(x, m, law());
                name = "law";
            } else if (name.equals("said") || name.equals("ask")) {
                tape(x, m, sightings(m));
            }
            for (int i = 0; i < calls.length; i++) if (calls[i].getName().equals(name)) c = i;
            if (name.equals("feed") || name.equals("back") && chance(70)) continue;
            Class<?>[] types = calls[c].getParameterTypes();
            Object[] arguments = new Object[types.length];
            for (int i = 0; i < types.length; i++) arguments[i] = argument(types[i], name, i, m.s.all.size());
            String what = "run " + number + " call " + k + " " + name + Arrays.toString(arguments);
            same(what, answer(x, calls[c], arguments), answer(m, twins[c], arguments));
            if (ACTS.contains(name) && chance(10)) sameState(what, x, m);
        }
        sameState("run " + number + " end", x, m);
    }

    public static void main(String[] args) throws ReflectiveOperationException {
        List<Method> calls = new ArrayList<>();
        for (Method c : CribLine.class.getDeclaredMethods()) {
            if (java.lang.reflect.Modifier.isPublic(c.getModifiers())) calls.add(c);
        }
        calls.sort((a, b) -> a.getName().compareTo(b.getName()));
        Method[] twins = new Method[calls.size()];
        for (int i = 0; i < twins.length; i++) {
            Method c = calls.get(i);
            twins[i] = c.getName().equals("feed") ? null : Model.class.getDeclaredMethod(c.getName(), c.getParameterTypes());
        }
        int runs = args.length > 0 ? Integer.parseInt(args[0]) : 400;
        for (int i = 0; i < runs; i++) run(i, calls.toArray(new Method[0]), twins);
        Check.close("ModelTest");
    }
}
