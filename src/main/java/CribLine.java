import java.util.Arrays;
import java.util.NoSuchElementException;

public final class CribLine {
    public static final int NONE = -1;

    private static final int TAPE_BYTES = 400;
    private static final int FED_BYTES = 20;
    private static final int MOST_TEXTS = 12;
    private static final int MOST_ACTS = 12;
    private static final int MOST_DAYS = 100;

    private final int[] tape = new int[TAPE_BYTES];
    private int tapeLength = 0;
    private int wrongByte = NONE;

    private final Family now = new Family();
    private final Family draft = new Family();
    private final Law rules = new Law();
    private final Law draftRules = new Law();
    private final FamilyReader familyReader = new FamilyReader(draft);
    private final LawReader lawReader = new LawReader(draftRules);

    private final Family[] past = new Family[MOST_ACTS];
    private int pastSize = 0;
    private final Family kept = new Family();
    private final Law keptRules = new Law();
    private boolean isKept = false;

    private final Days course = new Days(now, rules);
    private final Ages ages = new Ages(now, rules);
    private final Pairs pairs = new Pairs(now);
    private final Ties ties = new Ties(now);

    public CribLine() {
        for (int i = 0; i < past.length; i++) {
            past[i] = new Family();
        }
    }

    // ---- the TAPE and the texts

    public int feed(int a, int b, int c, int d, int e) {
        if (tapeLength + FED_BYTES > TAPE_BYTES) {
            return NONE;
        }
        putOnTape(a);
        putOnTape(b);
        putOnTape(c);
        putOnTape(d);
        putOnTape(e);
        return tapeLength;
    }

    private void putOnTape(int number) {
        for (int shift = 24; shift >= 0; shift -= 8) {
            if (tapeLength >= 0 && tapeLength < tape.length) {
                tape[tapeLength] = (number >>> shift) & 255;
                tapeLength++;
            }
        }
    }

    private int usedTape() {
        int length = tapeLength;
        tapeLength = 0;
        return length;
    }

    public boolean end(int n) {
        if (n < 0 || n > tapeLength) {
            return false;
        }
        tapeLength = n;
        return true;
    }

    public int family() throws IllegalArgumentException, UnsupportedOperationException {
        draft.take(now);
        wrongByte = familyReader.readText(tape, usedTape());
        if (wrongByte != NONE) {
            throw new IllegalArgumentException("the text is wrong");
        }
        if (now.texts >= MOST_TEXTS) {
            throw new UnsupportedOperationException("there are 12 texts");
        }
        draft.texts++;
        now.take(draft);
        pastSize = 0;
        return now.texts;
    }

    public int law() throws IllegalArgumentException {
        draftRules.begin();
        wrongByte = lawReader.readText(tape, usedTape());
        if (wrongByte != NONE) {
            throw new IllegalArgumentException("the text is wrong");
        }
        rules.take(draftRules);
        pastSize = 0;
        return rules.lines;
    }

    public int fault() {
        return wrongByte;
    }

    // ---- what is asked of each argument

    private void mustBe(int person) throws IndexOutOfBoundsException {
        if (!now.has(person)) {
            throw new IndexOutOfBoundsException("there is no such PERSON");
        }
    }

    private void mustBeTwo(int person, int other) throws IndexOutOfBoundsException, IllegalArgumentException {
        mustBe(person);
        mustBe(other);
        if (person == other) {
            throw new IllegalArgumentException("both are one");
        }
    }

    private static void mustLie(int n, int least, int most) throws IllegalArgumentException {
        if (n < least || n > most) {
            throw new IllegalArgumentException("the number is none");
        }
    }

    private static void mustHold(boolean it) throws IllegalStateException {
        if (!it) {
            throw new IllegalStateException("it cannot be");
        }
    }

    // ---- what one is

    public int person(int person, int what) throws IndexOutOfBoundsException, NoSuchElementException {
        mustBe(person);
        Person p = now.at(person);
        switch (what) {
            case 0: return p.age;
            case 1: return p.turns;
            case 2: return p.sort;
            case 3: return p.parent;
            case 4: return p.spouse;
            case 5: return p.wants;
            case 6: return p.stern;
            case 7: return p.permits;
            case 8: return p.governors;
            case 9: return now.governedBy(person);
            case 10: return now.log.shareOf(person);
            default: throw new NoSuchElementException("there is no such what");
        }
    }

    public int lent(int person, int other) throws IndexOutOfBoundsException, IllegalArgumentException {
        mustBeTwo(person, other);
        return now.lentBy(person, other);
    }

    public int weighs(int person, int other, boolean yes) throws IndexOutOfBoundsException, IllegalArgumentException {
        mustBeTwo(person, other);
        return rules.weight(now, person, other, yes);
    }

    public int gap(int person, int other) throws IndexOutOfBoundsException, IllegalArgumentException {
        mustBeTwo(person, other);
        return now.gapOf(person, other);
    }

    // ---- the ACTS

    // The oldest one remembered gives its room to the new one, so that no act makes an object.
    private void remember() {
        if (pastSize >= past.length) {
            Family oldest = past[0];
            for (int i = 1; i < past.length; i++) {
                past[i - 1] = past[i];
            }
            past[past.length - 1] = oldest;
            pastSize = past.length - 1;
        }
        if (pastSize >= 0 && pastSize < past.length) {
            past[pastSize].take(now);
            pastSize++;
        }
    }

    public int say(int person, int other, boolean yes) throws IndexOutOfBoundsException, IllegalStateException {
        mustBe(person);
        mustBe(other);
        mustHold(now.governs(person, other));
        remember();
        return now.tell(person, other, yes, rules.weight(now, person, other, yes));
    }

    public int bear(int person, boolean girl) throws IndexOutOfBoundsException, IllegalStateException {
        mustBe(person);
        mustHold(now.at(person).sort == Person.GIRL && now.size < Family.MOST);
        remember();
        int child = now.add(girl ? Person.GIRL : Person.BOY, now.round / 2, person);
        now.setGoverns(person, child, true);
        return child;
    }

    public int wed(int person, int other) throws IndexOutOfBoundsException, IllegalArgumentException, IllegalStateException {
        mustBeTwo(person, other);
        mustHold(now.mayWed(person, other));
        remember();
        now.join(person, other);
        return now.gapOf(person, other);
    }

    public int part(int person) throws IndexOutOfBoundsException, IllegalStateException {
        mustBe(person);
        int spouse = now.at(person).spouse;
        mustHold(spouse != NONE);
        remember();
        now.at(person).spouse = NONE;
        now.at(spouse).spouse = NONE;
        return spouse;
    }

    public int lend(int person, int other) throws IndexOutOfBoundsException, IllegalArgumentException, IllegalStateException {
        mustBeTwo(person, other);
        Person one = now.at(person);
        Person two = now.at(other);
        mustHold(one.permits > 0 && two.permits < Person.MOST_PERMITS
                && now.lentBy(person, other) < Person.MOST_PERMITS);
        remember();
        now.lendOne(person, other);
        return one.permits;
    }

    public int use(int person) throws IndexOutOfBoundsException, IllegalStateException {
        mustBe(person);
        mustHold(now.at(person).permits > 0);
        remember();
        now.at(person).permits--;
        return now.tell(person, person, true, now.leftByRound(now.step));
    }

    public boolean govern(int person, int other, boolean is) throws IndexOutOfBoundsException, IllegalArgumentException {
        mustBeTwo(person, other);
        remember();
        boolean was = now.governs(person, other);
        now.setGoverns(person, other, is);
        return was != is;
    }

    public int stern(int person, int n) throws IndexOutOfBoundsException, IllegalArgumentException {
        mustBe(person);
        mustLie(n, 0, 100);
        remember();
        int was = now.at(person).stern;
        now.at(person).stern = n;
        return was;
    }

    public int days(int n) throws IllegalArgumentException {
        mustLie(n, 1, MOST_DAYS);
        remember();
        return course.pass(now, n);
    }

    // ---- what words would make of one

    public int would(int person, int other, boolean yes) throws IndexOutOfBoundsException, IllegalArgumentException {
        mustBeTwo(person, other);
        return now.moved(now.at(other).age, rules.weight(now, person, other, yes), yes);
    }

    public int fewest(int person, int age) throws IndexOutOfBoundsException, IllegalArgumentException {
        mustBe(person);
        mustLie(age, 0, now.round - 1);
        return ages.stepsTo(person, age);
    }

    public int first(int person, int age) throws IndexOutOfBoundsException, IllegalArgumentException {
        mustBe(person);
        mustLie(age, 0, now.round - 1);
        return ages.firstTo(person, age);
    }

    public int can(int person, int n) throws IndexOutOfBoundsException, IllegalArgumentException {
        mustBe(person);
        mustLie(n, 0, 20);
        return ages.within(person, n);
    }

    public int harsh(int person) throws IndexOutOfBoundsException {
        mustBe(person);
        return ages.heaviest(person, false);
    }

    public int kind(int person) throws IndexOutOfBoundsException {
        mustBe(person);
        return ages.heaviest(person, true);
    }

    public int cradle(boolean yes, boolean who) {
        return course.firstInCrib(yes, who);
    }

    public int again(boolean yes) {
        return course.firstAsNow(yes);
    }

    public int over(int person) throws IndexOutOfBoundsException {
        mustBe(person);
        return course.firstTurn(person);
    }

    public int said(int person) throws IndexOutOfBoundsException, IllegalArgumentException {
        int length = usedTape();
        mustBe(person);
        mustBeSightings(length);
        return ages.fitting(person, tape, length);
    }

    public int ask(int person) throws IndexOutOfBoundsException, IllegalArgumentException {
        int length = usedTape();
        mustBe(person);
        mustBeSightings(length);
        return ages.bestToAsk(person, tape, length);
    }

    private void mustBeSightings(int length) throws IllegalArgumentException {
        boolean right = length <= 40 && length % 2 == 0;
        for (int i = 0; i < length && i < tape.length; i++) {
            right = right && tape[i] < now.round;
        }
        if (!right) {
            throw new IllegalArgumentException("the TAPE is not that");
        }
    }

    // ---- pairs

    public int match(boolean gaps) {
        pairs.bestMatching();
        return gaps ? pairs.bestGaps : pairs.bestPairs;
    }

    public int mate(int person) throws IndexOutOfBoundsException {
        mustBe(person);
        pairs.bestMatching();
        return pairs.bestOf(person);
    }

    public int stable(int person) throws IndexOutOfBoundsException {
        mustBe(person);
        return pairs.stableOf(person);
    }

    public int runs() {
        return pairs.runaways();
    }

    // ---- debts

    public int owes(int person, int other) throws IndexOutOfBoundsException, IllegalArgumentException {
        mustBeTwo(person, other);
        return Math.max(0, now.lentBy(other, person) - now.lentBy(person, other));
    }

    public int net() {
        return ties.netDebts();
    }

    public boolean ring(int person) throws IndexOutOfBoundsException {
        mustBe(person);
        return (ties.reached(person, true) >> person & 1) == 1;
    }

    public int rich() {
        int richest = NONE;
        for (int i = 0; i < now.size; i++) {
            if (richest == NONE || now.at(i).permits > now.at(richest).permits) {
                richest = i;
            }
        }
        return richest;
    }

    // ---- choices and the crib

    public int rests(int person, int other) throws IndexOutOfBoundsException, IllegalArgumentException, IllegalStateException {
        mustBeTwo(person, other);
        mustHold(now.governs(person, other));
        int no = rules.weight(now, person, other, false);
        int yes = rules.weight(now, person, other, true);
        return ties.restingChoices(now.at(person).stern / 10, no, yes);
    }

    public int mild(int n) throws IllegalArgumentException {
        mustLie(n, 0, 60);
        return course.mildest(n);
    }

    // ---- branches and governors

    public int branch(int person) throws IndexOutOfBoundsException {
        mustBe(person);
        return ties.branchOf(person);
    }

    public int senior() {
        return ties.youngestBranch();
    }

    public int kin(int person, int other) throws IndexOutOfBoundsException, IllegalArgumentException {
        mustBeTwo(person, other);
        return ties.stepsBetween(person, other);
    }

    public int cousins(int person) throws IndexOutOfBoundsException {
        mustBe(person);
        return ties.cousinsOf(person);
    }

    public int under(int person) throws IndexOutOfBoundsException {
        mustBe(person);
        return ties.reached(person, false);
    }

    public int free() {
        int bits = 0;
        for (int i = 0; i < now.size; i++) {
            if (now.at(i).governors == 0) {
                bits |= 1 << i;
            }
        }
        return bits;
    }

    // ---- how likely, and AGES of all

    public int odds(int person, int n, int k) throws IndexOutOfBoundsException, IllegalArgumentException {
        mustBe(person);
        mustLie(n, 0, 3);
        mustLie(k, 0, 3);
        return ties.chanceOfNo(person, n, k);
    }

    public int twins() {
        int twins = 0;
        for (int i = 0; i < now.size; i++) {
            for (int j = i + 1; j < now.size; j++) {
                if (now.at(i).age == now.at(j).age) {
                    twins++;
                }
            }
        }
        return twins;
    }

    public int mean() {
        return now.size > 0 ? now.agesTogether() / now.size : 0;
    }

    public int oldest() {
        return furthest(1);
    }

    public int youngest() {
        return furthest(-1);
    }

    private int furthest(int sign) {
        int best = NONE;
        for (int i = 0; i < now.size; i++) {
            if (best == NONE || sign * now.at(i).age > sign * now.at(best).age) {
                best = i;
            }
        }
        return best;
    }

    public int crib() {
        return now.inCrib();
    }

    public int spread() {
        int least = NONE;
        for (int i = 0; i < now.size; i++) {
            int steps = 0;
            for (int j = 0; j < now.size; j++) {
                int there = now.at(j).age - now.at(i).age;
                steps = Math.max(steps, there < 0 ? there + now.round : there);
            }
            if (least == NONE || steps < least) {
                least = steps;
            }
        }
        return least == NONE ? 0 : least;
    }

    // ---- days ahead and trials

    public int ahead(int person, int n, boolean yes) throws IndexOutOfBoundsException, IllegalArgumentException {
        mustBe(person);
        mustLie(n, 0, MOST_DAYS);
        return course.ageAhead(person, n, yes);
    }

    public int trial(int n, boolean crib) throws IllegalArgumentException {
        mustLie(n, 0, MOST_DAYS);
        return course.tried(n, crib);
    }

    public int span(int n, boolean most) throws IllegalArgumentException {
        mustLie(n, 0, MOST_DAYS);
        return course.spanned(n, most);
    }

    // ---- THE LOG, SEED, UNDONE, THE IMAGE

    public int led(int person, boolean day) throws IndexOutOfBoundsException {
        mustBe(person);
        return day ? now.log.latestDayTo(person) : now.log.rowsTo(person);
    }

    public int log(int ago, int what) throws NoSuchElementException {
        if (what < 0 || what >= Log.WIDTH) {
            throw new NoSuchElementException("there is no such what");
        }
        return now.log.cell(ago, what);
    }

    public int seed(int n) {
        int was = now.seed;
        now.seed = n;
        return was;
    }

    public boolean undo() {
        if (pastSize <= 0 || pastSize > past.length) {
            return false;
        }
        pastSize--;
        now.take(past[pastSize]);
        return true;
    }

    public void image() {
        kept.take(now);
        keptRules.take(rules);
        isKept = true;
    }

    public boolean back() {
        if (!isKept) {
            return false;
        }
        now.take(kept);
        rules.take(keptRules);
        pastSize = 0;
        return true;
    }

    public int count(int what) {
        switch (what) {
            case 0: return now.size;
            case 1: return now.texts;
            case 2: return rules.lines;
            case 3: return now.day;
            case 4: return now.round;
            case 5: return now.ripe;
            case 6: return now.step;
            case 7: return now.agesTogether();
            case 8: return now.turnsTogether();
            case 9: return now.boys();
            case 10: return now.wedded();
            case 11: return now.log.size;
            case 12: return pastSize;
            default: return NONE;
        }
    }

    // ---- what the family is

    static final class Person {
        static final int BOY = 0;
        static final int GIRL = 1;
        static final int MOST_PERMITS = 9;

        int age;
        int turns;
        int sort;
        int parent = NONE;
        int spouse = NONE;
        int wants;
        int stern = 50;
        int permits;
        int governors; // who may say no or yes to it, as bits

        void take(Person p) {
            age = p.age;
            turns = p.turns;
            sort = p.sort;
            parent = p.parent;
            spouse = p.spouse;
            wants = p.wants;
            stern = p.stern;
            permits = p.permits;
            governors = p.governors;
        }
    }

    static final class Family {
        static final int MOST = 8;
        private static final int MOST_TURNS = 99;
        private static final int LAST_DAY = 9999;

        private final Person[] people = new Person[MOST];
        private final Person nobody = new Person();
        private final int[] loans = new int[MOST * MOST];
        final Log log = new Log();
        int size = 0;
        int round = 90;
        int ripe = 5;
        int step = 1;
        int day = 0;
        int seed = 1;
        int texts = 0;

        Family() {
            for (int i = 0; i < people.length; i++) {
                people[i] = new Person();
            }
        }

        void take(Family f) {
            for (int i = 0; i < people.length; i++) {
                people[i].take(f.at(i));
            }
            System.arraycopy(f.loans, 0, loans, 0, loans.length);
            log.take(f.log);
            size = f.size;
            round = f.round;
            ripe = f.ripe;
            step = f.step;
            day = f.day;
            seed = f.seed;
            texts = f.texts;
        }

        boolean has(int i) {
            return i >= 0 && i < size;
        }

        // Never null: for a number that is no PERSON's there is one that nobody is.
        Person at(int i) {
            return i >= 0 && i < people.length ? people[i] : nobody;
        }

        int add(int sort, int age, int parent) {
            Person p = at(size);
            p.take(nobody);
            p.sort = sort;
            p.age = age;
            p.parent = parent;
            size++;
            return size - 1;
        }

        // ---- ages on the ring

        int gapOf(int i, int j) {
            int way = at(i).age - at(j).age;
            way = way < 0 ? -way : way;
            return Math.min(way, round - way);
        }

        int leftByRound(int sum) {
            return round > 0 ? sum % round : 0;
        }

        int moved(int age, int weight, boolean yes) {
            int moved = yes ? age + weight : age - weight;
            if (moved < 0) {
                return moved + round;
            }
            return moved >= round ? moved - round : moved;
        }

        int tell(int who, int whom, boolean yes, int weight) {
            Person p = at(whom);
            if (yes && p.age + weight >= round) {
                p.turns = Math.max(-MOST_TURNS, p.turns - 1);
            }
            if (!yes && p.age - weight < 0) {
                p.turns = Math.min(MOST_TURNS, p.turns + 1);
            }
            p.age = moved(p.age, weight, yes);
            log.add(day, who, whom, yes, p.age);
            return p.age;
        }

        void endDay() {
            day = Math.min(LAST_DAY, day + 1);
        }

        int draw() {
            seed = 1103515245 * seed + 12345;
            return (seed >>> 16) & 0x7FFF;
        }

        // ---- governing

        boolean governs(int i, int j) {
            return has(i) && (at(j).governors >> i & 1) == 1;
        }

        void setGoverns(int i, int j, boolean is) {
            if (has(i) && has(j)) {
                Person p = at(j);
                p.governors = is ? p.governors | 1 << i : p.governors & ~(1 << i);
            }
        }

        int governedBy(int i) {
            int bits = 0;
            for (int j = 0; j < size; j++) {
                if (governs(i, j)) {
                    bits |= 1 << j;
                }
            }
            return bits;
        }

        int governorAt(int j, int place) {
            int passed = 0;
            for (int i = 0; i < size; i++) {
                if (governs(i, j)) {
                    if (passed == place) {
                        return i;
                    }
                    passed++;
                }
            }
            return NONE;
        }

        // ---- weddings and loans

        boolean areParentAndChild(int i, int j) {
            return at(i).parent == j || at(j).parent == i;
        }

        boolean mayWed(int i, int j) {
            return at(i).sort != at(j).sort && at(i).spouse == NONE && at(j).spouse == NONE
                    && !areParentAndChild(i, j);
        }

        void join(int i, int j) {
            at(i).spouse = j;
            at(j).spouse = i;
        }

        int lentBy(int i, int j) {
            return has(i) && has(j) ? loans[i * MOST + j] : 0;
        }

        void lendOne(int i, int j) {
            if (has(i) && has(j)) {
                loans[i * MOST + j]++;
                at(i).permits--;
                at(j).permits++;
            }
        }

        // ---- all together

        int agesTogether() {
            int sum = 0;
            for (int i = 0; i < size; i++) {
                sum += at(i).age;
            }
            return sum;
        }

        int turnsTogether() {
            int sum = 0;
            for (int i = 0; i < size; i++) {
                sum += at(i).turns;
            }
            return sum;
        }

        int inCrib() {
            int bits = 0;
            for (int i = 0; i < size; i++) {
                if (at(i).age < ripe) {
                    bits |= 1 << i;
                }
            }
            return bits;
        }

        int boys() {
            int bits = 0;
            for (int i = 0; i < size; i++) {
                if (at(i).sort == Person.BOY) {
                    bits |= 1 << i;
                }
            }
            return bits;
        }

        int wedded() {
            int bits = 0;
            for (int i = 0; i < size; i++) {
                if (at(i).spouse != NONE) {
                    bits |= 1 << i;
                }
            }
            return bits;
        }
    }

    // Rows in a ring: the latest stands ahead of next.
    static final class Log {
        static final int WIDTH = 5;
        private static final int ROWS = 60;
        private static final int DAY = 0;
        private static final int WHO = 1;
        private static final int WHOM = 2;
        private static final int YES = 3;
        private static final int AGE = 4;

        private final int[] cells = new int[ROWS * WIDTH];
        private int next = 0;
        int size = 0;

        void take(Log l) {
            System.arraycopy(l.cells, 0, cells, 0, cells.length);
            next = l.next;
            size = l.size;
        }

        void add(int day, int who, int whom, boolean yes, int age) {
            int begin = next * WIDTH;
            if (begin < 0 || begin + AGE >= cells.length) {
                return;
            }
            cells[begin + DAY] = day;
            cells[begin + WHO] = who;
            cells[begin + WHOM] = whom;
            cells[begin + YES] = yes ? 1 : 0;
            cells[begin + AGE] = age;
            next = next + 1 < ROWS ? next + 1 : 0;
            size = Math.min(ROWS, size + 1);
        }

        int cell(int ago, int what) {
            if (ago < 0 || ago >= size || what < 0 || what >= WIDTH) {
                return NONE;
            }
            int row = next - 1 - ago;
            int place = (row < 0 ? row + ROWS : row) * WIDTH + what;
            return place >= 0 && place < cells.length ? cells[place] : NONE;
        }

        // The rows of no of one are those told to it: it is the one who is refused.
        int shareOf(int person) {
            int all = 0;
            int own = 0;
            for (int i = 0; i < size; i++) {
                if (cell(i, YES) == 0) {
                    all++;
                    own += cell(i, WHOM) == person ? 1 : 0;
                }
            }
            return all > 0 ? 100 * own / all : 0;
        }

        int rowsTo(int person) {
            int rows = 0;
            for (int i = 0; i < size; i++) {
                if (cell(i, WHOM) == person) {
                    rows++;
                }
            }
            return rows;
        }

        int latestDayTo(int person) {
            for (int i = 0; i < size; i++) {
                if (cell(i, WHOM) == person) {
                    return cell(i, DAY);
                }
            }
            return NONE;
        }
    }

    // The conditions stand as one row of steps, what is joined ahead of what joins it.
    static final class Law {
        static final int MOST_LINES = 12;

        private final int[] kinds = new int[MOST_LINES];
        private final int[] amounts = new int[MOST_LINES];
        private final int[] begins = new int[MOST_LINES];
        private final int[] ends = new int[MOST_LINES];
        private final int[] steps = new int[TAPE_BYTES];
        private final int[] numbers = new int[TAPE_BYTES];
        private final int[] facts = new int[Reader.WORDS];
        private final int[] stack = new int[TAPE_BYTES];
        int size = 0;
        int lines = NONE;

        void begin() {
            size = 0;
            lines = 0;
        }

        void take(Law l) {
            System.arraycopy(l.kinds, 0, kinds, 0, kinds.length);
            System.arraycopy(l.amounts, 0, amounts, 0, amounts.length);
            System.arraycopy(l.begins, 0, begins, 0, begins.length);
            System.arraycopy(l.ends, 0, ends, 0, ends.length);
            System.arraycopy(l.steps, 0, steps, 0, steps.length);
            System.arraycopy(l.numbers, 0, numbers, 0, numbers.length);
            size = l.size;
            lines = l.lines;
        }

        void put(int step, int number) {
            if (size >= 0 && size < steps.length) {
                steps[size] = step;
                numbers[size] = number;
                size++;
            }
        }

        void addLine(int kind, int amount, int begin) {
            if (lines >= 0 && lines < MOST_LINES) {
                kinds[lines] = kind;
                amounts[lines] = amount;
                begins[lines] = begin;
                ends[lines] = size;
                lines++;
            }
        }

        int weight(Family f, int who, int whom, boolean yes) {
            int kind = yes ? Reader.YES : Reader.NO;
            int sum = f.step;
            if (lines > 0) {
                gatherFacts(f, who, whom);
            }
            for (int i = 0; i < lines && i < MOST_LINES; i++) {
                if (kinds[i] != Reader.CALM && kinds[i] != kind || !holds(begins[i], ends[i])) {
                    continue;
                }
                if (kinds[i] == Reader.CALM) {
                    return 0;
                }
                sum += amounts[i];
            }
            return f.leftByRound(sum);
        }

        private void gatherFacts(Family f, int who, int whom) {
            Person one = f.at(whom);
            facts[Reader.WHO] = who;
            facts[Reader.WHOM] = whom;
            facts[Reader.AGE] = one.age;
            facts[Reader.ELDER] = f.at(who).age;
            facts[Reader.TURNS] = Math.max(0, one.turns);
            facts[Reader.DAY] = f.day;
            facts[Reader.WED] = one.spouse != NONE ? 1 : 0;
            facts[Reader.KIN] = one.parent == who ? 1 : 0;
            facts[Reader.CRIB] = one.age < f.ripe ? 1 : 0;
        }

        private boolean holds(int begin, int end) {
            int top = 0;
            for (int i = begin; i < end && i >= 0 && i < steps.length; i++) {
                int step = steps[i];
                if (step == Reader.NOT) {
                    if (top > 0 && top <= stack.length) {
                        stack[top - 1] = 1 - stack[top - 1];
                    }
                } else if (joins(step)) {
                    if (top > 1 && top <= stack.length) {
                        top--;
                        stack[top - 1] = joined(step, stack[top - 1], stack[top]);
                    }
                } else if (top >= 0 && top < stack.length) {
                    stack[top] = step > Reader.NUMBER && step < facts.length ? facts[step] : numbers[i];
                    top++;
                }
            }
            return top <= 0 || stack[0] != 0;
        }

        private static boolean joins(int step) {
            return step == '+' || step == '<' || step == '>' || step == Reader.AND || step == Reader.OR;
        }

        private static int joined(int step, int left, int right) {
            switch (step) {
                case '+': return left + right;
                case '<': return left < right ? 1 : 0;
                case '>': return left > right ? 1 : 0;
                case Reader.AND: return left & right;
                default: return left | right;
            }
        }
    }

    // ---- the texts

    // A text is parted into things first: a sign is its own number, a word and a number have one below.
    abstract static class Reader {
        static final int BAD = 0;
        static final int END = 1;
        static final int NUMBER = 2;
        static final int PERSON = 3;
        static final int BOY = 4;
        static final int GIRL = 5;
        static final int AGE = 6;
        static final int OF = 7;
        static final int WANTS = 8;
        static final int STERN = 9;
        static final int PERMITS = 10;
        static final int GOVERNS = 11;
        static final int WED = 12;
        static final int ROUND = 13;
        static final int RIPE = 14;
        static final int STEP = 15;
        static final int DAY = 16;
        static final int NO = 17;
        static final int YES = 18;
        static final int CALM = 19;
        static final int IF = 20;
        static final int OR = 21;
        static final int AND = 22;
        static final int NOT = 23;
        static final int KIN = 24;
        static final int CRIB = 25;
        static final int WHO = 26;
        static final int WHOM = 27;
        static final int ELDER = 28;
        static final int TURNS = 29;
        static final int WORDS = 30; // below each sign's number

        private static final int MOST_DIGITS = 3;

        private final int[] things = new int[TAPE_BYTES];
        private final int[] begins = new int[TAPE_BYTES];
        private final int[] numbers = new int[TAPE_BYTES];
        private final int mostLines;
        private int size = 0;
        private int length = 0;
        int at = 0; // the thing that is to be read next
        int number = 0; // the latest number that was read

        Reader(int mostLines) {
            this.mostLines = mostLines;
        }

        abstract boolean readLine();

        // Whatever cannot stand where it is stays unread: its begin is the first wrong byte.
        final int readText(int[] text, int textLength) {
            partText(text, Math.min(textLength, text.length));
            at = 0;
            if (next() == END) {
                return NONE;
            }
            for (int i = 0; i < mostLines; i++) {
                if (!readLine()) {
                    return beginOfNext();
                }
                if (next() == END) {
                    return NONE;
                }
                if (!took(';')) {
                    return beginOfNext();
                }
            }
            return beginOfNext();
        }

        final int next() {
            return at >= 0 && at < size && at < things.length ? things[at] : END;
        }

        private int beginOfNext() {
            return at >= 0 && at < size && at < begins.length ? begins[at] : length;
        }

        final int numberOfNext() {
            return at >= 0 && at < size && at < numbers.length ? numbers[at] : 0;
        }

        final boolean took(int thing) {
            if (next() != thing) {
                return false;
            }
            at++;
            return true;
        }

        final boolean tookNumber(int least, int most) {
            int told = numberOfNext();
            if (next() != NUMBER || told < least || told > most) {
                return false;
            }
            number = told;
            at++;
            return true;
        }

        private void partText(int[] text, int textLength) {
            size = 0;
            length = textLength;
            int end = 0;
            for (int i = 0; i < length; i = Math.max(i + 1, end)) {
                end = endOfThing(text, i);
                if (text[i] != ' ') {
                    addThing(text, i, Math.max(i + 1, end));
                }
            }
        }

        private static boolean isLetter(int sign) {
            return sign >= 'a' && sign <= 'z';
        }

        private static boolean isDigit(int sign) {
            return sign >= '0' && sign <= '9';
        }

        private int endOfThing(int[] text, int begin) {
            for (int i = begin; i < length && i < text.length; i++) {
                boolean goesOn = isLetter(text[begin]) && isLetter(text[i]) || isDigit(text[begin]) && isDigit(text[i]);
                if (!goesOn) {
                    return i;
                }
            }
            return length;
        }

        private void addThing(int[] text, int begin, int end) {
            if (size < 0 || size >= things.length) {
                return;
            }
            begins[size] = begin;
            numbers[size] = 0;
            if (isLetter(text[begin])) {
                things[size] = wordOf(text, begin, end);
            } else if (isDigit(text[begin])) {
                things[size] = end - begin > MOST_DIGITS ? BAD : NUMBER;
                numbers[size] = end - begin > MOST_DIGITS ? 0 : numberOf(text, begin, end);
            } else {
                things[size] = isSign(text[begin]) ? text[begin] : BAD;
            }
            size++;
        }

        private static boolean isSign(int sign) {
            return sign == ';' || sign == '(' || sign == ')' || sign == '<' || sign == '>' || sign == '+';
        }

        private static int numberOf(int[] text, int begin, int end) {
            int sum = 0;
            for (int i = begin; i < end && i < text.length; i++) {
                sum = 10 * sum + text[i] - '0';
            }
            return sum;
        }

        private static boolean reads(int[] text, int begin, int end, String word) {
            if (end - begin != word.length() || begin < 0 || end > text.length) {
                return false;
            }
            for (int i = 0; i < word.length(); i++) {
                if (text[begin + i] != word.charAt(i)) {
                    return false;
                }
            }
            return true;
        }

        private static int wordOf(int[] text, int begin, int end) {
            if (reads(text, begin, end, "person")) return PERSON;
            if (reads(text, begin, end, "boy")) return BOY;
            if (reads(text, begin, end, "girl")) return GIRL;
            if (reads(text, begin, end, "age")) return AGE;
            if (reads(text, begin, end, "of")) return OF;
            if (reads(text, begin, end, "wants")) return WANTS;
            if (reads(text, begin, end, "stern")) return STERN;
            if (reads(text, begin, end, "permits")) return PERMITS;
            if (reads(text, begin, end, "governs")) return GOVERNS;
            if (reads(text, begin, end, "wed")) return WED;
            if (reads(text, begin, end, "round")) return ROUND;
            if (reads(text, begin, end, "ripe")) return RIPE;
            if (reads(text, begin, end, "step")) return STEP;
            if (reads(text, begin, end, "day")) return DAY;
            if (reads(text, begin, end, "no")) return NO;
            if (reads(text, begin, end, "yes")) return YES;
            if (reads(text, begin, end, "calm")) return CALM;
            if (reads(text, begin, end, "if")) return IF;
            if (reads(text, begin, end, "or")) return OR;
            if (reads(text, begin, end, "and")) return AND;
            if (reads(text, begin, end, "not")) return NOT;
            if (reads(text, begin, end, "kin")) return KIN;
            if (reads(text, begin, end, "crib")) return CRIB;
            if (reads(text, begin, end, "who")) return WHO;
            if (reads(text, begin, end, "whom")) return WHOM;
            if (reads(text, begin, end, "elder")) return ELDER;
            if (reads(text, begin, end, "turns")) return TURNS;
            return BAD;
        }
    }

    static final class FamilyReader extends Reader {
        private final Family draft;

        FamilyReader(Family draft) {
            super(14);
            this.draft = draft;
        }

        boolean readLine() {
            switch (next()) {
                case PERSON: return readPerson();
                case GOVERNS: return readGoverns();
                case WED: return readWed();
                case ROUND: return readRound();
                case RIPE:
                    at++;
                    if (!tookNumber(0, 99)) return false;
                    draft.ripe = number;
                    return true;
                case STEP:
                    at++;
                    if (!tookNumber(0, 20)) return false;
                    draft.step = number;
                    return true;
                case DAY:
                    at++;
                    if (!tookNumber(0, 999)) return false;
                    draft.day = number;
                    return true;
                default: return false;
            }
        }

        private boolean readPerson() {
            if (draft.size >= Family.MOST) {
                return false;
            }
            at++;
            boolean boy = took(BOY);
            if (!boy && !took(GIRL) || !took(AGE) || !tookNumber(0, draft.round - 1)) {
                return false;
            }
            int age = number;
            int parent = NONE;
            if (took(OF)) {
                if (!tookPerson()) return false;
                parent = number;
            }
            return readRest(draft.at(draft.add(boy ? Person.BOY : Person.GIRL, age, parent)));
        }

        private boolean readRest(Person p) {
            if (took(WANTS)) {
                if (!tookNumber(0, 100)) return false;
                p.wants = number;
            }
            if (took(STERN)) {
                if (!tookNumber(0, 100)) return false;
                p.stern = number;
            }
            if (took(PERMITS)) {
                if (!tookNumber(0, Person.MOST_PERMITS)) return false;
                p.permits = number;
            }
            return true;
        }

        private boolean tookPerson() {
            return tookNumber(0, draft.size - 1);
        }

        private boolean readGoverns() {
            at++;
            if (!tookPerson()) return false;
            int one = number;
            if (!tookPerson()) return false;
            if (number == one) {
                at--; // it is wrong at the second one
                return false;
            }
            draft.setGoverns(one, number, true);
            return true;
        }

        private boolean readWed() {
            at++;
            if (!tookPerson()) return false;
            int one = number;
            if (!tookPerson()) return false;
            if (!draft.mayWed(one, number)) {
                at--; // it is wrong at the second one
                return false;
            }
            draft.join(one, number);
            return true;
        }

        private boolean readRound() {
            at++;
            int least = 2;
            for (int i = 0; i < draft.size; i++) {
                least = Math.max(least, draft.at(i).age + 1);
            }
            if (!tookNumber(least, 99)) return false;
            draft.round = number;
            return true;
        }
    }

    static final class LawReader extends Reader {
        private static final int MOST_DEEP = 6;

        private final Law draft;

        LawReader(Law draft) {
            super(Law.MOST_LINES);
            this.draft = draft;
        }

        boolean readLine() {
            int kind = next();
            if (kind != NO && kind != YES && kind != CALM) {
                return false;
            }
            at++;
            if (kind != CALM && !tookNumber(0, 60)) {
                return false;
            }
            int amount = kind == CALM ? 0 : number;
            int begin = draft.size;
            if (took(IF) && !readAny(0)) {
                return false;
            }
            draft.addLine(kind, amount, begin);
            return true;
        }

        private boolean readAny(int deep) {
            if (!readAll(deep)) {
                return false;
            }
            for (int i = 0; i < TAPE_BYTES && took(OR); i++) {
                if (!readAll(deep)) {
                    return false;
                }
                draft.put(OR, 0);
            }
            return true;
        }

        private boolean readAll(int deep) {
            if (!readAtom(deep)) {
                return false;
            }
            for (int i = 0; i < TAPE_BYTES && took(AND); i++) {
                if (!readAtom(deep)) {
                    return false;
                }
                draft.put(AND, 0);
            }
            return true;
        }

        private boolean readAtom(int deep) {
            int thing = next();
            if (thing == '(' || thing == NOT) {
                if (deep >= MOST_DEEP) {
                    return false;
                }
                at++;
                if (thing == '(') {
                    return readAny(deep + 1) && took(')');
                }
                if (!readAtom(deep + 1)) {
                    return false;
                }
                draft.put(NOT, 0);
                return true;
            }
            if (thing == WED || thing == KIN || thing == CRIB) {
                at++;
                draft.put(thing, 0);
                return true;
            }
            return readComparison();
        }

        private boolean readComparison() {
            if (!readSum()) {
                return false;
            }
            int sign = next();
            if (sign != '<' && sign != '>') {
                return false;
            }
            at++;
            if (!readSum()) {
                return false;
            }
            draft.put(sign, 0);
            return true;
        }

        private boolean readSum() {
            for (int i = 0; i < TAPE_BYTES; i++) {
                int part = next();
                if (!isPart(part)) {
                    return false;
                }
                draft.put(part, numberOfNext());
                at++;
                if (i > 0) {
                    draft.put('+', 0);
                }
                if (!took('+')) {
                    return true;
                }
            }
            return false;
        }

        private static boolean isPart(int thing) {
            return thing == NUMBER || thing == WHO || thing == WHOM || thing == AGE || thing == ELDER
                    || thing == TURNS || thing == DAY;
        }
    }

    // ---- DAYS, and all that is asked of days ahead

    static final class Days {
        private static final int SEEDS = 6;
        private static final int MOST_STEP = 20;

        private final Family now;
        private final Law law;
        private final Family trial = new Family();

        Days(Family now, Law law) {
            this.now = now;
            this.law = law;
        }

        // How many no were said.
        int pass(Family f, int n) {
            int refused = 0;
            for (int i = 0; i < n; i++) {
                refused += passDay(f);
            }
            return refused;
        }

        private int passDay(Family f) {
            int refused = 0;
            for (int i = 0; i < f.size; i++) {
                int governors = Integer.bitCount(f.at(i).governors);
                if (governors > 0 && f.draw() % 100 < f.at(i).wants) {
                    int who = f.governorAt(i, f.draw() % governors);
                    boolean yes = f.draw() % 100 >= f.at(who).stern;
                    f.tell(who, i, yes, law.weight(f, who, i, yes));
                    refused += yes ? 0 : 1;
                }
            }
            f.endDay();
            return refused;
        }

        private void passAhead(Family f, boolean yes) {
            for (int i = 0; i < f.size; i++) {
                if (f.at(i).governors != 0) {
                    int who = f.governorAt(i, 0);
                    f.tell(who, i, yes, law.weight(f, who, i, yes));
                }
            }
            f.endDay();
        }

        int ageAhead(int person, int n, boolean yes) {
            trial.take(now);
            for (int i = 0; i < n; i++) {
                passAhead(trial, yes);
            }
            return trial.at(person).age;
        }

        int firstInCrib(boolean yes, boolean who) {
            trial.take(now);
            for (int n = 0; n <= MOST_DAYS; n++) {
                int lying = trial.inCrib();
                if (lying != 0) {
                    return who ? Integer.numberOfTrailingZeros(lying) : n;
                }
                passAhead(trial, yes);
            }
            return NONE;
        }

        int firstAsNow(boolean yes) {
            trial.take(now);
            for (int n = 1; n <= MOST_DAYS; n++) {
                passAhead(trial, yes);
                if (areAsNow(trial)) {
                    return n;
                }
            }
            return NONE;
        }

        private boolean areAsNow(Family f) {
            for (int i = 0; i < now.size; i++) {
                if (f.at(i).age != now.at(i).age) {
                    return false;
                }
            }
            return true;
        }

        int firstTurn(int person) {
            trial.take(now);
            for (int n = 1; n <= MOST_DAYS; n++) {
                passAhead(trial, false);
                if (trial.at(person).turns > now.at(person).turns) {
                    return n;
                }
            }
            return NONE;
        }

        int mildest(int n) {
            for (int step = MOST_STEP; step >= 0; step--) {
                if (isMild(step, n)) {
                    return step;
                }
            }
            return NONE;
        }

        private boolean isMild(int step, int n) {
            trial.take(now);
            trial.step = step;
            for (int i = 0; i < n; i++) {
                passAhead(trial, false);
                if (trial.inCrib() != 0) {
                    return false;
                }
            }
            return true;
        }

        int tried(int n, boolean crib) {
            trial.take(now);
            pass(trial, n);
            return crib ? trial.inCrib() : trial.agesTogether();
        }

        int spanned(int n, boolean most) {
            int best = NONE;
            for (int seed = 1; seed <= SEEDS; seed++) {
                trial.take(now);
                trial.seed = seed;
                pass(trial, n);
                int sum = trial.agesTogether();
                if (best == NONE || (most ? sum > best : sum < best)) {
                    best = sum;
                }
            }
            return best;
        }
    }

    // ---- all AGES that one can come to by words; of a SAYING: 2 times who says it, 1 more of a yes

    static final class Ages {
        private static final int MOST_ROUND = 99;
        private static final int SAYINGS = 2 * Family.MOST;

        private final Family now;
        private final Law law;
        private final Family trial = new Family();
        private final int[] steps = new int[MOST_ROUND];
        private final int[] leads = new int[MOST_ROUND];
        private final int[] queue = new int[MOST_ROUND];
        private final int[] parts = new int[MOST_ROUND];
        private int reachedAges = 0;

        Ages(Family now, Law law) {
            this.now = now;
            this.law = law;
        }

        private boolean canBeSaid(int saying, int person) {
            return now.governs(saying / 2, person);
        }

        // Of the trial, in which all but that AGE is as now.
        private int ageBehind(int person, int age, int saying) {
            boolean yes = saying % 2 == 1;
            trial.at(person).age = age;
            return trial.moved(age, law.weight(trial, saying / 2, person, yes), yes);
        }

        private static boolean isPlace(int age) {
            return age >= 0 && age < MOST_ROUND;
        }

        // Each AGE is taken up behind all of fewer SAYINGS, so its least first SAYING stands by then.
        private void reachFrom(int person) {
            trial.take(now);
            Arrays.fill(steps, NONE);
            reachedAges = 0;
            reach(now.at(person).age, 0, NONE);
            for (int i = 0; i < reachedAges && i < queue.length; i++) {
                int age = queue[i];
                for (int saying = 0; saying < SAYINGS && isPlace(age); saying++) {
                    if (canBeSaid(saying, person)) {
                        reach(ageBehind(person, age, saying), steps[age] + 1, i == 0 ? saying : leads[age]);
                    }
                }
            }
        }

        private void reach(int age, int step, int lead) {
            if (!isPlace(age)) {
                return;
            }
            if (steps[age] == NONE && reachedAges >= 0 && reachedAges < queue.length) {
                steps[age] = step;
                leads[age] = lead;
                queue[reachedAges] = age;
                reachedAges++;
            } else if (steps[age] == step) {
                leads[age] = Math.min(leads[age], lead);
            }
        }

        int stepsTo(int person, int age) {
            reachFrom(person);
            return isPlace(age) ? steps[age] : NONE;
        }

        int firstTo(int person, int age) {
            reachFrom(person);
            return isPlace(age) && steps[age] > 0 ? leads[age] : NONE;
        }

        int within(int person, int n) {
            reachFrom(person);
            int many = 0;
            for (int i = 0; i < steps.length; i++) {
                if (steps[i] != NONE && steps[i] <= n) {
                    many++;
                }
            }
            return many;
        }

        int heaviest(int person, boolean yes) {
            int best = NONE;
            int most = NONE;
            for (int i = 0; i < now.size; i++) {
                if (now.governs(i, person)) {
                    int weight = law.weight(now, i, person, yes);
                    if (weight > most) {
                        most = weight;
                        best = i;
                    }
                }
            }
            return best;
        }

        int fitting(int person, int[] seen, int length) {
            trial.take(now);
            int bits = 0;
            for (int saying = 0; saying < SAYINGS; saying++) {
                if (canBeSaid(saying, person) && fits(person, saying, seen, length)) {
                    bits |= 1 << saying;
                }
            }
            return bits;
        }

        private boolean fits(int person, int saying, int[] seen, int length) {
            for (int i = 0; i + 1 < length && i + 1 < seen.length; i += 2) {
                if (ageBehind(person, seen[i], saying) != seen[i + 1]) {
                    return false;
                }
            }
            return true;
        }

        int bestToAsk(int person, int[] seen, int length) {
            int bits = fitting(person, seen, length);
            if (Integer.bitCount(bits) < 2) {
                return NONE;
            }
            int best = NONE;
            int least = SAYINGS + 1;
            for (int age = 0; age < now.round; age++) {
                int greatest = greatestPart(person, age, bits);
                if (greatest < least) {
                    least = greatest;
                    best = age;
                }
            }
            return best;
        }

        private int greatestPart(int person, int age, int bits) {
            Arrays.fill(parts, 0);
            int greatest = 0;
            for (int saying = 0; saying < SAYINGS; saying++) {
                if ((bits >> saying & 1) == 1) {
                    int behind = ageBehind(person, age, saying);
                    if (isPlace(behind)) {
                        parts[behind]++;
                        greatest = Math.max(greatest, parts[behind]);
                    }
                }
            }
            return greatest;
        }
    }

    // ---- MATCH, STABLE and RUNS

    static final class Pairs {
        private final Family now;
        private final int[] mates = new int[Family.MOST];
        private final int[] best = new int[Family.MOST];
        private final int[] asked = new int[Family.MOST];
        int bestPairs = 0;
        int bestGaps = 0;

        Pairs(Family now) {
            this.now = now;
        }

        private boolean isSingle(int person, int sort) {
            return now.has(person) && now.at(person).sort == sort && now.at(person).spouse == NONE;
        }

        void bestMatching() {
            Arrays.fill(mates, NONE);
            Arrays.fill(best, NONE);
            bestPairs = 0;
            bestGaps = 0;
            matchFrom(0, 0, 0);
        }

        // Ways come in their order, so the first of several alike stays.
        private void matchFrom(int boy, int many, int gaps) {
            if (boy >= Family.MOST || boy >= now.size) {
                if (many > bestPairs || many == bestPairs && gaps < bestGaps) {
                    bestPairs = many;
                    bestGaps = gaps;
                    System.arraycopy(mates, 0, best, 0, best.length);
                }
                return;
            }
            if (isSingle(boy, Person.BOY)) {
                for (int girl = 0; girl < Family.MOST; girl++) {
                    if (isSingle(girl, Person.GIRL) && mates[girl] == NONE && now.mayWed(boy, girl)) {
                        mates[boy] = girl;
                        mates[girl] = boy;
                        matchFrom(boy + 1, many + 1, gaps + now.gapOf(boy, girl));
                        mates[boy] = NONE;
                        mates[girl] = NONE;
                    }
                }
            }
            matchFrom(boy + 1, many, gaps);
        }

        int bestOf(int person) {
            return person >= 0 && person < best.length ? best[person] : NONE;
        }

        int stableOf(int person) {
            Arrays.fill(mates, NONE);
            Arrays.fill(asked, 0);
            for (int i = 0; i < Family.MOST * Family.MOST; i++) {
                if (!someoneAsks()) {
                    break;
                }
            }
            return person >= 0 && person < mates.length ? mates[person] : NONE;
        }

        private boolean someoneAsks() {
            for (int boy = 0; boy < Family.MOST; boy++) {
                if (isSingle(boy, Person.BOY) && mates[boy] == NONE) {
                    int girl = nearestNotAsked(boy);
                    if (girl != NONE) {
                        askOne(boy, girl);
                        return true;
                    }
                }
            }
            return false;
        }

        private int nearestNotAsked(int boy) {
            int nearest = NONE;
            for (int girl = 0; girl < Family.MOST && boy >= 0 && boy < asked.length; girl++) {
                if (isSingle(girl, Person.GIRL) && now.mayWed(boy, girl) && (asked[boy] >> girl & 1) == 0
                        && (nearest == NONE || now.gapOf(boy, girl) < now.gapOf(boy, nearest))) {
                    nearest = girl;
                }
            }
            return nearest;
        }

        private void askOne(int boy, int girl) {
            if (boy < 0 || boy >= Family.MOST || girl < 0 || girl >= Family.MOST) {
                return;
            }
            asked[boy] |= 1 << girl;
            int other = mates[girl];
            if (other == NONE || isNearer(girl, boy, other)) {
                mates[girl] = boy;
                mates[boy] = girl;
                if (other >= 0 && other < mates.length) {
                    mates[other] = NONE;
                }
            }
        }

        private boolean isNearer(int girl, int boy, int other) {
            int gap = now.gapOf(girl, boy);
            int otherGap = now.gapOf(girl, other);
            return gap < otherGap || gap == otherGap && boy < other;
        }

        int runaways() {
            int many = 0;
            for (int boy = 0; boy < now.size; boy++) {
                for (int girl = 0; girl < now.size; girl++) {
                    if (now.at(boy).sort == Person.BOY && now.at(girl).sort == Person.GIRL
                            && !now.areParentAndChild(boy, girl) && wouldRather(boy, girl) && wouldRather(girl, boy)) {
                        many++;
                    }
                }
            }
            return many;
        }

        private boolean wouldRather(int person, int other) {
            int spouse = now.at(person).spouse;
            return spouse == NONE || now.gapOf(person, other) < now.gapOf(person, spouse);
        }
    }

    // ---- who is whose

    static final class Ties {
        private final Family now;

        Ties(Family now) {
            this.now = now;
        }

        int netDebts() {
            int sum = 0;
            for (int i = 0; i < now.size; i++) {
                int own = 0;
                for (int j = 0; j < now.size; j++) {
                    own += now.lentBy(i, j) - now.lentBy(j, i);
                }
                sum += Math.max(0, own);
            }
            return sum;
        }

        private int nextOf(int person, boolean byLoans) {
            int bits = 0;
            for (int i = 0; i < now.size; i++) {
                if (byLoans ? now.lentBy(person, i) > 0 : now.governs(person, i)) {
                    bits |= 1 << i;
                }
            }
            return bits;
        }

        // Itself is among them only if one comes back to it.
        int reached(int person, boolean byLoans) {
            int bits = nextOf(person, byLoans);
            for (int round = 0; round < Family.MOST; round++) {
                for (int i = 0; i < now.size; i++) {
                    if ((bits >> i & 1) == 1) {
                        bits |= nextOf(i, byLoans);
                    }
                }
            }
            return bits;
        }

        // A PARENT has a lesser number, so it is decided ahead of its children.
        int branchOf(int person) {
            int bits = 0;
            for (int i = 0; i < now.size; i++) {
                int parent = now.at(i).parent;
                if (i == person || parent != NONE && (bits >> parent & 1) == 1) {
                    bits |= 1 << i;
                }
            }
            return bits;
        }

        int youngestBranch() {
            int best = NONE;
            int least = 0;
            for (int i = 0; i < now.size; i++) {
                if (now.at(i).parent == NONE) {
                    int sum = agesOf(branchOf(i));
                    if (best == NONE || sum < least) {
                        best = i;
                        least = sum;
                    }
                }
            }
            return best;
        }

        private int agesOf(int bits) {
            int sum = 0;
            for (int i = 0; i < now.size; i++) {
                sum += (bits >> i & 1) == 1 ? now.at(i).age : 0;
            }
            return sum;
        }

        // One has one PARENT at most: the way goes up to the nearest one above both, and down.
        int stepsBetween(int person, int other) {
            int up = person;
            for (int i = 0; i < Family.MOST && up != NONE; i++) {
                int down = stepsUp(other, up);
                if (down != NONE) {
                    return i + down;
                }
                up = now.at(up).parent;
            }
            return NONE;
        }

        private int stepsUp(int from, int to) {
            int up = from;
            for (int i = 0; i < Family.MOST && up != NONE; i++) {
                if (up == to) {
                    return i;
                }
                up = now.at(up).parent;
            }
            return NONE;
        }

        int cousinsOf(int person) {
            int parent = now.at(person).parent;
            int above = grandparentOf(person);
            int bits = 0;
            for (int i = 0; i < now.size; i++) {
                if (above != NONE && grandparentOf(i) == above && now.at(i).parent != parent) {
                    bits |= 1 << i;
                }
            }
            return bits;
        }

        private int grandparentOf(int person) {
            int parent = now.at(person).parent;
            return parent == NONE ? NONE : now.at(parent).parent;
        }

        // Choices: 2 times the one's (0 no, 1 yes) and the other one's (0 asks, 1 is still).
        int restingChoices(int refusing, int no, int yes) {
            int bits = 0;
            for (int one = 0; one < 2; one++) {
                for (int other = 0; other < 2; other++) {
                    if (gainOfOne(1 - one, other, refusing) <= gainOfOne(one, other, refusing)
                            && gainOfOther(one, 1 - other, no, yes) <= gainOfOther(one, other, no, yes)) {
                        bits |= 1 << 2 * one + other;
                    }
                }
            }
            return bits;
        }

        private static int gainOfOne(int one, int other, int refusing) {
            if (other == 1) {
                return one;
            }
            return one == 0 ? refusing : -1;
        }

        private static int gainOfOther(int one, int other, int no, int yes) {
            if (other == 1) {
                return 0;
            }
            return one == 0 ? -no : yes;
        }

        // Counted whole: of all that can come in n days as many as are asked for; at most 70000 each day.
        int chanceOfNo(int person, int n, int k) {
            int governors = Integer.bitCount(now.at(person).governors);
            if (governors == 0) {
                return 0;
            }
            long sterns = 0;
            for (int i = 0; i < now.size; i++) {
                sterns += now.governs(i, person) ? now.at(i).stern : 0;
            }
            long all = 10000L * governors;
            long refused = now.at(person).wants * sterns;
            long good = 0;
            long total = 1;
            for (int i = 0; i < n; i++) {
                total *= all;
            }
            for (int i = k; i <= n; i++) {
                good += ways(n, i) * power(refused, i) * power(all - refused, n - i);
            }
            return total > 0 ? (int) (10000 * good / total) : 0;
        }

        private static long ways(int n, int k) {
            return k == 0 || k == n ? 1 : n;
        }

        private static long power(long base, int n) {
            long product = 1;
            for (int i = 0; i < n; i++) {
                product *= base;
            }
            return product;
        }
    }
}
