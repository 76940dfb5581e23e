import java.math.BigInteger;
import java.util.ArrayDeque;
import java.util.ArrayList;
import java.util.List;
import java.util.NoSuchElementException;
import java.util.TreeMap;
import java.util.TreeSet;
import java.util.regex.Matcher;
import java.util.regex.Pattern;

/** The document once more, in its dearest and plainest form, to be held against the class. */
final class Model {
    static final int NONE = -1;

    static final class One {
        int age, turns, sort, parent = NONE, spouse = NONE, wants, stern = 50, permits;
        TreeSet<Integer> governors = new TreeSet<>();
        TreeMap<Integer, Integer> lent = new TreeMap<>();

        One copy() {
            One o = new One();
            o.age = age; o.turns = turns; o.sort = sort; o.parent = parent; o.spouse = spouse;
            o.wants = wants; o.stern = stern; o.permits = permits;
            o.governors.addAll(governors);
            o.lent.putAll(lent);
            return o;
        }

        int lentTo(int j) {
            return lent.getOrDefault(j, 0);
        }
    }

    interface Cond {
        boolean holds(State s, int who, int whom);
    }

    interface Sum {
        int of(State s, int who, int whom);
    }

    record Rule(String kind, int n, Cond cond) {
    }

    static final class State {
        List<One> all = new ArrayList<>();
        int round = 90, ripe = 5, step = 1, day = 0, seed = 1, texts = 0;
        List<Rule> law = null;
        List<int[]> log = new ArrayList<>(); // the oldest first

        State copy() {
            State s = new State();
            for (One o : all) s.all.add(o.copy());
            s.round = round; s.ripe = ripe; s.step = step; s.day = day; s.seed = seed; s.texts = texts;
            s.law = law;
            s.log.addAll(log);
            return s;
        }

        One one(int i) {
            return all.get(i);
        }

        int weighs(int who, int whom, boolean yes) {
            int sum = step;
            if (law != null) {
                for (Rule r : law) if (r.kind.equals("calm") && r.cond.holds(this, who, whom)) return 0;
                for (Rule r : law) if (r.kind.equals(yes ? "yes" : "no") && r.cond.holds(this, who, whom)) sum += r.n;
            }
            return sum % round;
        }

        void move(int who, int whom, boolean yes, int w) {
            One o = one(whom);
            if (yes) {
                o.age += w;
                if (o.age >= round) {
                    o.age -= round;
                    if (o.turns > -99) o.turns--;
                }
            } else {
                o.age -= w;
                if (o.age < 0) {
                    o.age += round;
                    if (o.turns < 99) o.turns++;
                }
            }
            log.add(new int[] {day, who, whom, yes ? 1 : 0, o.age});
            if (log.size() > 60) log.remove(0);
        }

        int draw() {
            seed = (int) (1103515245L * seed + 12345L);
            return (int) ((seed & 0xFFFFFFFFL) / 65536 % 32768);
        }

        int days(int n) {
            int no = 0;
            for (int d = 0; d < n; d++) {
                for (int i = 0; i < all.size(); i++) {
                    List<Integer> g = new ArrayList<>(one(i).governors);
                    if (g.isEmpty()) continue;
                    if (draw() % 100 < one(i).wants) {
                        int who = g.get(draw() % g.size());
                        boolean isNo = draw() % 100 < one(who).stern;
                        move(who, i, !isNo, weighs(who, i, !isNo));
                        if (isNo) no++;
                    }
                }
                if (day < 9999) day++;
            }
            return no;
        }

        State ahead(int n, boolean yes) {
            State s = copy();
            for (int d = 0; d < n; d++) {
                for (int i = 0; i < s.all.size(); i++) {
                    if (!s.one(i).governors.isEmpty()) {
                        int who = s.one(i).governors.first();
                        s.move(who, i, yes, s.weighs(who, i, yes));
                    }
                }
                if (s.day < 9999) s.day++;
            }
            return s;
        }

        int crib() {
            int bits = 0;
            for (int i = 0; i < all.size(); i++) if (one(i).age < ripe) bits |= 1 << i;
            return bits;
        }

        int ages() {
            return all.stream().mapToInt(o -> o.age).sum();
        }

        int gap(int i, int j) {
            int d = Math.floorMod(one(i).age - one(j).age, round);
            return Math.min(d, round - d);
        }

        boolean related(int i, int j) {
            return one(i).parent == j || one(j).parent == i;
        }
    }

    State s = new State();
    State kept = null;
    List<State> past = new ArrayList<>();
    List<Integer> tape = new ArrayList<>();
    int fault = NONE;

    // ---- texts: the rest of the text is eaten word by word

    static final class Wrong extends RuntimeException {
        private static final long serialVersionUID = 1L;
        final int at;

        Wrong(int at) {
            this.at = at;
        }
    }

    static final class Eater {
        private static final Pattern THING = Pattern.compile(" *([a-z]+|[0-9]+|.)?", Pattern.DOTALL);
        final String text;
        int begin, end;
        String thing;

        Eater(String text) {
            this.text = text;
            eat();
        }

        void eat() {
            Matcher m = THING.matcher(text);
            m.region(end, text.length());
            m.lookingAt();
            thing = m.group(1) == null ? "" : m.group(1);
            end = m.end();
            begin = thing.isEmpty() ? text.length() : m.start(1);
        }

        boolean is(String... which) {
            for (String w : which) if (thing.equals(w)) return true;
            return false;
        }

        void must(boolean it) {
            if (!it) throw new Wrong(begin);
        }

        String take(String... which) {
            must(is(which));
            String t = thing;
            eat();
            return t;
        }

        boolean maybe(String which) {
            if (!is(which)) return false;
            eat();
            return true;
        }

        int number(int least, int most) {
            must(thing.matches("[0-9]{1,3}"));
            int n = Integer.parseInt(thing);
            must(n >= least && n <= most);
            eat();
            return n;
        }
    }

    private static void familyLine(Eater e, State t) {
        int persons = t.all.size();
        e.must(e.is("person", "governs", "wed", "round", "ripe", "step", "day"));
        e.must(!e.is("person") || persons < 8);
        String word = e.take(e.thing);
        switch (word) {
            case "person" -> {
                One o = new One();
                o.sort = e.take("boy", "girl").equals("girl") ? 1 : 0;
                e.take("age");
                o.age = e.number(0, t.round - 1);
                if (e.maybe("of")) o.parent = e.number(0, persons - 1);
                if (e.maybe("wants")) o.wants = e.number(0, 100);
                if (e.maybe("stern")) o.stern = e.number(0, 100);
                if (e.maybe("permits")) o.permits = e.number(0, 9);
                t.all.add(o);
            }
            case "governs" -> {
                int a = e.number(0, persons - 1);
                e.must(!e.thing.matches("0*" + a));
                t.one(e.number(0, persons - 1)).governors.add(a);
            }
            case "wed" -> {
                int a = e.number(0, persons - 1);
                int place = e.begin;
                int b = e.number(0, persons - 1);
                if (t.one(a).sort == t.one(b).sort || t.one(a).spouse != NONE || t.one(b).spouse != NONE || t.related(a, b)) {
                    throw new Wrong(place);
                }
                t.one(a).spouse = b;
                t.one(b).spouse = a;
            }
            case "round" -> t.round = e.number(Math.max(2, t.all.stream().mapToInt(o -> o.age + 1).max().orElse(0)), 99);
            case "ripe" -> t.ripe = e.number(0, 99);
            case "step" -> t.step = e.number(0, 20);
            default -> t.day = e.number(0, 999);
        }
    }

    private static Cond any(Eater e, int deep) {
        Cond left = all(e, deep);
        while (e.maybe("or")) {
            Cond a = left, b = all(e, deep);
            left = (s, i, j) -> a.holds(s, i, j) || b.holds(s, i, j);
        }
        return left;
    }

    private static Cond all(Eater e, int deep) {
        Cond left = atom(e, deep);
        while (e.maybe("and")) {
            Cond a = left, b = atom(e, deep);
            left = (s, i, j) -> a.holds(s, i, j) && b.holds(s, i, j);
        }
        return left;
    }

    private static Cond atom(Eater e, int deep) {
        e.must(!e.is("not", "(") || deep < 6);
        if (e.maybe("not")) {
            Cond a = atom(e, deep + 1);
            return (s, i, j) -> !a.holds(s, i, j);
        }
        if (e.maybe("(")) {
            Cond a = any(e, deep + 1);
            e.take(")");
            return a;
        }
        if (e.maybe("wed")) return (s, i, j) -> s.one(j).spouse != NONE;
        if (e.maybe("kin")) return (s, i, j) -> s.one(j).parent == i;
        if (e.maybe("crib")) return (s, i, j) -> s.one(j).age < s.ripe;
        Sum a = sum(e);
        boolean less = e.take("<", ">").equals("<");
        Sum b = sum(e);
        return (s, i, j) -> less ? a.of(s, i, j) < b.of(s, i, j) : a.of(s, i, j) > b.of(s, i, j);
    }

    private static Sum sum(Eater e) {
        Sum left = part(e);
        while (e.maybe("+")) {
            Sum a = left, b = part(e);
            left = (s, i, j) -> a.of(s, i, j) + b.of(s, i, j);
        }
        return left;
    }

    private static Sum part(Eater e) {
        if (e.maybe("who")) return (s, i, j) -> i;
        if (e.maybe("whom")) return (s, i, j) -> j;
        if (e.maybe("age")) return (s, i, j) -> s.one(j).age;
        if (e.maybe("elder")) return (s, i, j) -> s.one(i).age;
        if (e.maybe("turns")) return (s, i, j) -> Math.max(0, s.one(j).turns);
        if (e.maybe("day")) return (s, i, j) -> s.day;
        int n = e.number(0, 999);
        return (s, i, j) -> n;
    }

    private String text() {
        StringBuilder b = new StringBuilder();
        for (int v : tape) b.append((char) v);
        tape.clear();
        return b.toString();
    }

    int family() {
        State t = s.copy();
        try {
            Eater e = new Eater(text());
            if (!e.is("")) {
                familyLine(e, t);
                for (int lines = 1; !e.is(""); lines++) {
                    e.take(";");
                    e.must(lines < 14);
                    familyLine(e, t);
                }
            }
        } catch (Wrong w) {
            fault = w.at;
            throw new IllegalArgumentException();
        }
        fault = NONE;
        if (s.texts == 12) throw new UnsupportedOperationException();
        t.texts++;
        s = t;
        past.clear();
        return s.texts;
    }

    private static Rule lawLine(Eater e) {
        String kind = e.take("no", "yes", "calm");
        int n = kind.equals("calm") ? 0 : e.number(0, 60);
        return new Rule(kind, n, e.maybe("if") ? any(e, 0) : (s, i, j) -> true);
    }

    int law() {
        List<Rule> rules = new ArrayList<>();
        try {
            Eater e = new Eater(text());
            if (!e.is("")) {
                rules.add(lawLine(e));
                while (!e.is("")) {
                    e.take(";");
                    e.must(rules.size() < 12);
                    rules.add(lawLine(e));
                }
            }
        } catch (Wrong w) {
            fault = w.at;
            throw new IllegalArgumentException();
        }
        fault = NONE;
        s.law = rules;
        past.clear();
        return rules.size();
    }

    int feed(int... n) {
        if (tape.size() > 380) return NONE;
        for (int v : n) for (int k = 3; k >= 0; k--) tape.add(v >> 8 * k & 255);
        return tape.size();
    }

    boolean end(int n) {
        if (n < 0 || n > tape.size()) return false;
        while (tape.size() > n) tape.remove(tape.size() - 1);
        return true;
    }

    int fault() {
        return fault;
    }

    // ---- what must be

    private void who(int... people) {
        for (int p : people) if (p < 0 || p >= s.all.size()) throw new IndexOutOfBoundsException();
    }

    private void two(int a, int b) {
        who(a, b);
        argue(a != b);
    }

    private void argue(boolean right) {
        if (!right) throw new IllegalArgumentException();
    }

    private void state(boolean right) {
        if (!right) throw new IllegalStateException();
    }

    private void act() {
        past.add(s.copy());
        if (past.size() > 12) past.remove(0);
    }

    private int bits(java.util.function.IntPredicate p) {
        int bits = 0;
        for (int i = 0; i < s.all.size(); i++) if (p.test(i)) bits |= 1 << i;
        return bits;
    }

    int person(int p, int what) {
        who(p);
        One o = s.one(p);
        return switch (what) {
            case 0 -> o.age;
            case 1 -> o.turns;
            case 2 -> o.sort;
            case 3 -> o.parent;
            case 4 -> o.spouse;
            case 5 -> o.wants;
            case 6 -> o.stern;
            case 7 -> o.permits;
            case 8 -> bits(i -> o.governors.contains(i));
            case 9 -> bits(i -> s.one(i).governors.contains(p));
            case 10 -> {
                long all = s.log.stream().filter(r -> r[3] == 0).count();
                long own = s.log.stream().filter(r -> r[3] == 0 && r[2] == p).count();
                yield all == 0 ? 0 : (int) (own * 100 / all);
            }
            default -> throw new NoSuchElementException();
        };
    }

    int lent(int a, int b) {
        two(a, b);
        return s.one(a).lentTo(b);
    }

    int weighs(int a, int b, boolean yes) {
        two(a, b);
        return s.weighs(a, b, yes);
    }

    int gap(int a, int b) {
        two(a, b);
        return s.gap(a, b);
    }

    int say(int a, int b, boolean yes) {
        who(a, b);
        state(s.one(b).governors.contains(a));
        act();
        s.move(a, b, yes, s.weighs(a, b, yes));
        return s.one(b).age;
    }

    int bear(int p, boolean girl) {
        who(p);
        state(s.one(p).sort == 1 && s.all.size() < 8);
        act();
        One o = new One();
        o.sort = girl ? 1 : 0;
        o.age = s.round / 2;
        o.parent = p;
        o.governors.add(p);
        s.all.add(o);
        return s.all.size() - 1;
    }

    int wed(int a, int b) {
        two(a, b);
        state(s.one(a).sort != s.one(b).sort && s.one(a).spouse == NONE && s.one(b).spouse == NONE && !s.related(a, b));
        act();
        s.one(a).spouse = b;
        s.one(b).spouse = a;
        return s.gap(a, b);
    }

    int part(int p) {
        who(p);
        int was = s.one(p).spouse;
        state(was != NONE);
        act();
        s.one(p).spouse = NONE;
        s.one(was).spouse = NONE;
        return was;
    }

    int lend(int a, int b) {
        two(a, b);
        state(s.one(a).permits > 0 && s.one(b).permits < 9 && s.one(a).lentTo(b) < 9);
        act();
        s.one(a).lent.merge(b, 1, Integer::sum);
        s.one(b).permits++;
        return --s.one(a).permits;
    }

    int use(int p) {
        who(p);
        state(s.one(p).permits > 0);
        act();
        s.one(p).permits--;
        s.move(p, p, true, s.step % s.round);
        return s.one(p).age;
    }

    boolean govern(int a, int b, boolean is) {
        two(a, b);
        act();
        return is ? s.one(b).governors.add(a) : s.one(b).governors.remove(a);
    }

    int stern(int p, int n) {
        who(p);
        argue(n >= 0 && n <= 100);
        act();
        int was = s.one(p).stern;
        s.one(p).stern = n;
        return was;
    }

    int days(int n) {
        argue(n >= 1 && n <= 100);
        act();
        return s.days(n);
    }

    // ---- by words

    private int behind(int whom, int age, int saying) {
        State t = s.copy();
        t.one(whom).age = age;
        t.move(saying / 2, whom, saying % 2 == 1, t.weighs(saying / 2, whom, saying % 2 == 1));
        return t.one(whom).age;
    }

    int would(int a, int b, boolean yes) {
        two(a, b);
        return behind(b, s.one(b).age, 2 * a + (yes ? 1 : 0));
    }

    private List<Integer> sayings(int p) {
        List<Integer> all = new ArrayList<>();
        for (int g : s.one(p).governors) {
            all.add(2 * g);
            all.add(2 * g + 1);
        }
        return all;
    }

    /** Of each AGE the fewest SAYINGS from one AGE on. */
    private TreeMap<Integer, Integer> reach(int p, int from) {
        TreeMap<Integer, Integer> steps = new TreeMap<>();
        steps.put(from, 0);
        ArrayDeque<Integer> open = new ArrayDeque<>(List.of(from));
        while (!open.isEmpty()) {
            int age = open.poll();
            for (int v : sayings(p)) {
                int n = behind(p, age, v);
                if (steps.putIfAbsent(n, steps.get(age) + 1) == null) open.add(n);
            }
        }
        return steps;
    }

    int fewest(int p, int age) {
        who(p);
        argue(age >= 0 && age < s.round);
        return reach(p, s.one(p).age).getOrDefault(age, NONE);
    }

    int first(int p, int age) {
        int n = fewest(p, age);
        if (n <= 0) return NONE;
        for (int v : sayings(p)) {
            if (reach(p, behind(p, s.one(p).age, v)).getOrDefault(age, 1000) == n - 1) return v;
        }
        throw new AssertionError();
    }

    int can(int p, int n) {
        who(p);
        argue(n >= 0 && n <= 20);
        return (int) reach(p, s.one(p).age).values().stream().filter(v -> v <= n).count();
    }

    private int most(int p, boolean yes) {
        who(p);
        int best = NONE;
        for (int g : s.one(p).governors) if (best == NONE || s.weighs(g, p, yes) > s.weighs(best, p, yes)) best = g;
        return best;
    }

    int harsh(int p) {
        return most(p, false);
    }

    int kind(int p) {
        return most(p, true);
    }

    int cradle(boolean yes, boolean who) {
        for (int n = 0; n <= 100; n++) {
            int c = s.ahead(n, yes).crib();
            if (c != 0) {
                int least = 0;
                while ((c >> least & 1) == 0) least++;
                return who ? least : n;
            }
        }
        return NONE;
    }

    int again(boolean yes) {
        for (int n = 1; n <= 100; n++) {
            State t = s.ahead(n, yes);
            boolean same = true;
            for (int i = 0; i < s.all.size(); i++) same &= t.one(i).age == s.one(i).age;
            if (same) return n;
        }
        return NONE;
    }

    int over(int p) {
        who(p);
        for (int n = 0; n <= 100; n++) if (s.ahead(n, false).one(p).turns > s.one(p).turns) return n;
        return NONE;
    }

    private List<Integer> seen(int p, List<Integer> t) {
        who(p);
        argue(t.size() % 2 == 0 && t.size() <= 40);
        for (int b : t) argue(b < s.round);
        List<Integer> fit = sayings(p);
        for (int i = 0; i < t.size(); i += 2) {
            int a = t.get(i), b = t.get(i + 1);
            fit.removeIf(v -> behind(p, a, v) != b);
        }
        return fit;
    }

    private List<Integer> used() {
        List<Integer> t = new ArrayList<>(tape);
        tape.clear();
        return t;
    }

    int said(int p) {
        return seen(p, used()).stream().mapToInt(v -> 1 << v).sum();
    }

    int ask(int p) {
        List<Integer> fit = seen(p, used());
        if (fit.size() < 2) return NONE;
        int best = NONE, least = 100;
        for (int age = 0; age < s.round; age++) {
            TreeMap<Integer, Integer> parts = new TreeMap<>();
            for (int v : fit) parts.merge(behind(p, age, v), 1, Integer::sum);
            int most = parts.values().stream().max(Integer::compare).get();
            if (most < least) {
                least = most;
                best = age;
            }
        }
        return best;
    }

    // ---- pairs

    private List<Integer> singles(int sort) {
        List<Integer> all = new ArrayList<>();
        for (int i = 0; i < s.all.size(); i++) if (s.one(i).sort == sort && s.one(i).spouse == NONE) all.add(i);
        return all;
    }

    private void ways(List<Integer> boys, List<Integer> chosen, List<List<Integer>> all) {
        if (chosen.size() == boys.size()) {
            all.add(new ArrayList<>(chosen));
            return;
        }
        List<Integer> girls = new ArrayList<>(singles(1));
        girls.add(99);
        for (int g : girls) {
            if (g == 99 || !chosen.contains(g) && !s.related(boys.get(chosen.size()), g)) {
                chosen.add(g);
                ways(boys, chosen, all);
                chosen.remove(chosen.size() - 1);
            }
        }
    }

    private int many(List<Integer> way) {
        return (int) way.stream().filter(g -> g != 99).count();
    }

    private int gaps(List<Integer> boys, List<Integer> way) {
        int sum = 0;
        for (int i = 0; i < way.size(); i++) if (way.get(i) != 99) sum += s.gap(boys.get(i), way.get(i));
        return sum;
    }

    private List<Integer> bestWay() {
        List<Integer> boys = singles(0);
        List<List<Integer>> all = new ArrayList<>();
        ways(boys, new ArrayList<>(), all);
        all.sort((a, b) -> {
            int c = many(b) - many(a);
            if (c == 0) c = gaps(boys, a) - gaps(boys, b);
            for (int i = 0; c == 0 && i < a.size(); i++) c = a.get(i) - b.get(i);
            return c;
        });
        return all.get(0);
    }

    int match(boolean gaps) {
        return gaps ? gaps(singles(0), bestWay()) : many(bestWay());
    }

    int mate(int p) {
        who(p);
        List<Integer> boys = singles(0), way = bestWay();
        for (int i = 0; i < way.size(); i++) {
            if (way.get(i) == 99) continue;
            if (boys.get(i) == p) return way.get(i);
            if (way.get(i) == p) return boys.get(i);
        }
        return NONE;
    }

    int stable(int p) {
        who(p);
        TreeMap<Integer, List<Integer>> wishes = new TreeMap<>();
        for (int b : singles(0)) {
            List<Integer> l = new ArrayList<>(singles(1));
            l.removeIf(g -> s.related(b, g));
            l.sort((x, y) -> s.gap(b, x) != s.gap(b, y) ? s.gap(b, x) - s.gap(b, y) : x - y);
            wishes.put(b, l);
        }
        // all ask at once; whoever is refused strikes that girl out, until nobody is
        while (true) {
            TreeMap<Integer, Integer> keeps = new TreeMap<>();
            for (int b : wishes.keySet()) {
                if (wishes.get(b).isEmpty()) continue;
                int g = wishes.get(b).get(0);
                Integer o = keeps.get(g);
                if (o == null || s.gap(b, g) < s.gap(o, g)) keeps.put(g, b);
            }
            boolean refused = false;
            for (int b : wishes.keySet()) {
                if (!wishes.get(b).isEmpty() && keeps.get(wishes.get(b).get(0)) != b) {
                    wishes.get(b).remove(0);
                    refused = true;
                }
            }
            if (!refused) {
                for (int g : keeps.keySet()) {
                    if (g == p) return keeps.get(g);
                    if (keeps.get(g) == p) return g;
                }
                return NONE;
            }
        }
    }

    int runs() {
        int many = 0;
        for (int b = 0; b < s.all.size(); b++) {
            for (int g = 0; g < s.all.size(); g++) {
                One x = s.one(b), y = s.one(g);
                if (x.sort != 0 || y.sort != 1 || s.related(b, g) || x.spouse == g) continue;
                int bNow = x.spouse == NONE ? 1000 : s.gap(b, x.spouse);
                int gNow = y.spouse == NONE ? 1000 : s.gap(g, y.spouse);
                if (s.gap(b, g) < bNow && s.gap(b, g) < gNow) many++;
            }
        }
        return many;
    }

    // ---- debts, choices, branches

    int owes(int a, int b) {
        two(a, b);
        return Math.max(0, s.one(b).lentTo(a) - s.one(a).lentTo(b));
    }

    int net() {
        int net = 0;
        for (int i = 0; i < s.all.size(); i++) {
            int own = 0;
            for (int v : s.one(i).lent.values()) own += v;
            for (One o : s.all) own -= o.lentTo(i);
            net += Math.max(0, own);
        }
        return net;
    }

    private boolean comes(int from, int to, boolean[] been, boolean byLent) {
        for (int i = 0; i < s.all.size(); i++) {
            boolean next = byLent ? s.one(from).lentTo(i) > 0 : s.one(i).governors.contains(from);
            if (!next) continue;
            if (i == to) return true;
            if (!been[i]) {
                been[i] = true;
                if (comes(i, to, been, byLent)) return true;
            }
        }
        return false;
    }

    boolean ring(int p) {
        who(p);
        return comes(p, p, new boolean[8], true);
    }

    int under(int p) {
        who(p);
        return bits(i -> comes(p, i, new boolean[8], false));
    }

    int rich() {
        return greatest(i -> s.one(i).permits);
    }

    private int greatest(java.util.function.IntUnaryOperator f) {
        int best = NONE;
        for (int i = 0; i < s.all.size(); i++) {
            if (best == NONE || f.applyAsInt(i) > f.applyAsInt(best)) best = i;
        }
        return best;
    }

    int rests(int a, int b) {
        two(a, b);
        state(s.one(b).governors.contains(a));
        int[] mine = {s.one(a).stern / 10, 0, -1, 1}; // no asks, no still, yes asks, yes still
        int[] its = {-s.weighs(a, b, false), 0, s.weighs(a, b, true), 0};
        int bits = 0;
        for (int c = 0; c < 4; c++) if (mine[c] >= mine[c ^ 2] && its[c] >= its[c ^ 1]) bits |= 1 << c;
        return bits;
    }

    int mild(int n) {
        argue(n >= 0 && n <= 60);
        for (int step = 20; step >= 0; step--) {
            State t = s.copy();
            t.step = step;
            boolean mild = true;
            for (int d = 1; d <= n; d++) {
                t = t.ahead(1, false);
                mild &= t.crib() == 0;
            }
            if (mild) return step;
        }
        return NONE;
    }

    private boolean isBelow(int i, int p) {
        return i == p || s.one(i).parent != NONE && isBelow(s.one(i).parent, p);
    }

    int branch(int p) {
        who(p);
        return bits(i -> isBelow(i, p));
    }

    int senior() {
        int best = NONE, least = 0;
        for (int i = 0; i < s.all.size(); i++) {
            if (s.one(i).parent != NONE) continue;
            int sum = 0;
            for (int j = 0; j < s.all.size(); j++) if (isBelow(j, i)) sum += s.one(j).age;
            if (best == NONE || sum < least) {
                best = i;
                least = sum;
            }
        }
        return best;
    }

    int kin(int a, int b) {
        two(a, b);
        TreeSet<Integer> been = new TreeSet<>(List.of(a));
        for (int n = 1; n < 8; n++) {
            for (int x : new ArrayList<>(been)) {
                for (int y = 0; y < s.all.size(); y++) if (s.related(x, y)) been.add(y);
            }
            if (been.contains(b)) return n;
        }
        return NONE;
    }

    int cousins(int p) {
        who(p);
        if (s.one(p).parent == NONE || s.one(s.one(p).parent).parent == NONE) return 0;
        int above = s.one(s.one(p).parent).parent;
        return bits(i -> s.one(i).parent != NONE && s.one(s.one(i).parent).parent == above && s.one(i).parent != s.one(p).parent);
    }

    int free() {
        return bits(i -> s.one(i).governors.isEmpty());
    }

    int odds(int p, int n, int k) {
        who(p);
        argue(n >= 0 && n <= 3 && k >= 0 && k <= 3);
        List<Integer> g = new ArrayList<>(s.one(p).governors);
        if (g.isEmpty()) return 0;
        BigInteger all = BigInteger.valueOf(10000L * g.size());
        BigInteger no = BigInteger.ZERO;
        for (int i : g) no = no.add(BigInteger.valueOf((long) s.one(p).wants * s.one(i).stern));
        BigInteger good = BigInteger.ZERO;
        for (int way = 0; way < 1 << n; way++) {
            if (Integer.bitCount(way) < k) continue;
            BigInteger v = BigInteger.ONE;
            for (int d = 0; d < n; d++) v = v.multiply((way >> d & 1) == 1 ? no : all.subtract(no));
            good = good.add(v);
        }
        return good.multiply(BigInteger.valueOf(10000)).divide(all.pow(n)).intValueExact();
    }

    // ---- all together

    int twins() {
        int n = 0;
        for (One a : s.all) for (One b : s.all) if (a != b && a.age == b.age) n++;
        return n / 2;
    }

    int mean() {
        return s.all.isEmpty() ? 0 : s.ages() / s.all.size();
    }

    int oldest() {
        return greatest(i -> s.one(i).age);
    }

    int youngest() {
        return greatest(i -> -s.one(i).age);
    }

    int crib() {
        return s.crib();
    }

    int spread() {
        TreeSet<Integer> ages = new TreeSet<>();
        for (One o : s.all) ages.add(o.age);
        if (ages.size() < 2) return 0;
        int hole = ages.first() + s.round - ages.last();
        Integer last = null;
        for (int a : ages) {
            if (last != null) hole = Math.max(hole, a - last);
            last = a;
        }
        return s.round - hole;
    }

    int ahead(int p, int n, boolean yes) {
        who(p);
        argue(n >= 0 && n <= 100);
        return s.ahead(n, yes).one(p).age;
    }

    int trial(int n, boolean crib) {
        argue(n >= 0 && n <= 100);
        State t = s.copy();
        t.days(n);
        return crib ? t.crib() : t.ages();
    }

    int span(int n, boolean most) {
        argue(n >= 0 && n <= 100);
        TreeSet<Integer> sums = new TreeSet<>();
        for (int seed = 1; seed <= 6; seed++) {
            State t = s.copy();
            t.seed = seed;
            t.days(n);
            sums.add(t.ages());
        }
        return most ? sums.last() : sums.first();
    }

    int led(int p, boolean day) {
        who(p);
        int rows = 0, latest = NONE;
        for (int[] r : s.log) {
            if (r[2] == p) {
                rows++;
                latest = r[0];
            }
        }
        return day ? latest : rows;
    }

    int log(int ago, int what) {
        if (what < 0 || what > 4) throw new NoSuchElementException();
        return ago < 0 || ago >= s.log.size() ? NONE : s.log.get(s.log.size() - 1 - ago)[what];
    }

    int seed(int n) {
        int was = s.seed;
        s.seed = n;
        return was;
    }

    boolean undo() {
        if (past.isEmpty()) return false;
        s = past.remove(past.size() - 1);
        return true;
    }

    void image() {
        kept = s.copy();
    }

    boolean back() {
        if (kept == null) return false;
        s = kept.copy();
        past.clear();
        return true;
    }

    int count(int what) {
        return switch (what) {
            case 0 -> s.all.size();
            case 1 -> s.texts;
            case 2 -> s.law == null ? NONE : s.law.size();
            case 3 -> s.day;
            case 4 -> s.round;
            case 5 -> s.ripe;
            case 6 -> s.step;
            case 7 -> s.ages();
            case 8 -> s.all.stream().mapToInt(o -> o.turns).sum();
            case 9 -> bits(i -> s.one(i).sort == 0);
            case 10 -> bits(i -> s.one(i).spouse != NONE);
            case 11 -> s.log.size();
            case 12 -> past.size();
            default -> NONE;
        };
    }
}
