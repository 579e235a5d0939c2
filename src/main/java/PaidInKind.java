import java.util.Arrays;

/** Directions paid in kind, as the document's promises 1 to 29 tell it; its words in capitals are kept in the comments. */
public final class PaidInKind {
    public static final int NONE = -1, BAD = -2, STATE = -3, FULL = -4;
    public static final long NO = -4611686018427387904L;

    /** The host's refusals. */
    private static final int NOTHING = -11, OUTSIDE = -12, UNLIKE = -13, BELOW = -14;

    private static final int PLACES = 8, ALL_WAYS = 255, MOST_MILES = 99, NO_WAY = 999;
    private static final int MOST_PEOPLE = 6, MOST_NUMBER = 9, MOST_ROUND = 999, MOST_MINUTES = 99999;
    private static final int MOST_TEXTS = 6, MOST_BYTES = 160, FIRST_FAULT = -100;
    private static final int SHEETS = 4, MOST_ITEMS = 40, BYTES = 0, SHORTS = 1, INTS = 2;

    /** What a TRADE's payment is when the teller tells FREE. */
    private static final int FOR_NOTHING = 8;

    private static final int LONG_RUN = 20, FORESIGHT = 8, DRAWN_ROUNDS = 5;
    private static final int MOST_SEEDS = 20, MOST_DRAWN = 48;

    /** The highest v that set() takes, by what. */
    private static final int[] MOST_SET = {MOST_ROUND, MOST_NUMBER, PLACES - 1, ALL_WAYS, ALL_WAYS};

    private final Roads roads = new Roads();
    private final Folk folk = new Folk();
    private final Roads keptRoads = new Roads();
    private final Folk keptFolk = new Folk();
    private boolean kept = false;
    /** What is played through in thought; every call that uses it lays it out anew. */
    private final Folk thought = new Folk();
    private final Reader reader = new Reader();
    private final Rules rules = new Rules(roads);
    private final Market market = new Market(rules);
    private final Sheet[] sheets = new Sheet[SHEETS];

    public PaidInKind() {
        reader.write("takes not here ; worth far ; times 1 + far ;");
        rules.add(reader.read());
        for (int i = 0; i < SHEETS; i++) sheets[i] = new Sheet();
    }

    // ---- roads, people

    public int set(int what, int of, int v) {
        if (what < 0 || what >= MOST_SET.length) return BAD;
        if (what != 0 && !isPerson(of)) return BAD;
        if (v < 0 || v > MOST_SET[what]) return BAD;
        if (what == 0) {
            int was = folk.round;
            folk.round = v;
            return was;
        }
        int[] row = folk.row(what);
        int was = row[of];
        row[of] = v;
        return was;
    }

    public int road(int one, int other, int miles) {
        if (!isPlace(one) || !isPlace(other) || one == other) return BAD;
        if (miles < 0 || miles > MOST_MILES) return BAD;
        return roads.lay(one, other, miles);
    }

    public int person(int kind, int number, int knows) {
        if (!Kinds.isKind(kind) || number < 0 || number > MOST_NUMBER) return BAD;
        if (knows < 0 || knows > ALL_WAYS) return BAD;
        return folk.add(kind, number, knows);
    }

    public int told(int of, int what) {
        if (what == 0) return folk.round;
        if (!isPerson(of) || what < 0) return BAD;
        if (what <= 6) return folk.row(what)[of];
        if (what == 7) return folk.hoard(of);
        if (what == 8) return roads.reach(folk.place[of], folk.knows[of]);
        return toldOfWay(of, what / 10, what % 10);
    }

    private int toldOfWay(int one, int what, int t) {
        if (!isPlace(t)) return BAD;
        switch (what) {
            case 1: return market.worth(folk, one, t);
            case 2: return market.time(folk, one, t);
            case 3: return market.takes(folk, one, t) ? 1 : 0;
            default: return BAD;
        }
    }

    // ---- texts

    public int feed(int letter) {
        if (letter < 0 || letter > 255) return BAD;
        return reader.add(letter);
    }

    public int text() {
        if (rules.size >= MOST_TEXTS) return FULL;
        Text read = reader.read();
        if (read == null) return FIRST_FAULT - reader.fault;
        return rules.add(read);
    }

    public int force(int text) {
        if (text < 0 || text >= rules.size) return BAD;
        int was = folk.rule;
        folk.rule = text;
        return was;
    }

    // ---- trades, rounds

    public int pays(int a, int b, int t) {
        if (!isPerson(a) || !isPerson(b) || a == b || !isPlace(t)) return BAD;
        return market.payment(folk, a, b, t);
    }

    public int trade(int a, int b, int t) {
        int pay = pays(a, b, t);
        if (pay == BAD) return BAD;
        if (pay == NONE) return STATE;
        market.deal(folk, a, b, t, pay);
        return pay;
    }

    public int round() {
        if (folk.round >= MOST_ROUND) return STATE;
        return market.rounds(folk, 1, NONE);
    }

    public int run(int n, int what) {
        if (n < 0 || n > LONG_RUN) return BAD;
        boolean ofOne = what >= 10 && what < 10 + folk.size;
        if (what != 0 && what != 1 && !ofOne) return BAD;
        thought.become(folk);
        market.rounds(thought, n, NONE);
        if (ofOne) return thought.knows[what - 10];
        return what == 0 ? thought.ways(NONE) : thought.minutesOfAll() - folk.minutesOfAll();
    }

    public int all(int what) {
        switch (what) {
            case 0: return folk.ways(NONE);
            case 1: return folk.knownByAny(NONE);
            case 2: return folk.knownByAll();
            case 3:
                thought.become(folk);
                return market.rounds(thought, 1, NONE) == 0 ? 1 : 0;
            default: return BAD;
        }
    }

    // ---- what would be best

    public int soon(int one, int t) {
        if (!isPerson(one) || !isPlace(t)) return BAD;
        thought.become(folk);
        for (int n = 0; n < LONG_RUN; n++) {
            if (thought.isKnown(one, t)) return n;
            int deals = market.rounds(thought, 1, NONE);
            if (deals == 0 && market.restsForGood(thought)) return NONE;
        }
        return thought.isKnown(one, t) ? LONG_RUN : NONE;
    }

    public int gift(int one, int what) {
        if (!isPerson(one) || what < 0 || what > 1) return BAD;
        int best = NONE;
        int most = waysWithGift(one, 0);
        for (int t = 0; t < PLACES; t++) {
            if (folk.isKnown(one, t)) continue;
            int ways = waysWithGift(one, 1 << t);
            if (ways > most) {
                best = t;
                most = ways;
            }
        }
        return what == 0 ? best : most;
    }

    private int waysWithGift(int one, int given) {
        thought.become(folk);
        thought.knows[one] |= given;
        market.rounds(thought, FORESIGHT, NONE);
        return thought.ways(NONE);
    }

    public int missed(int what) {
        if (what < 0 || what > 1) return BAD;
        int who = NONE;
        int least = NONE;
        for (int i = 0; i < folk.size; i++) {
            thought.become(folk);
            market.rounds(thought, FORESIGHT, i);
            int more = thought.ways(i) - folk.ways(i);
            if (who == NONE || more < least) {
                who = i;
                least = more;
            }
        }
        return what == 0 ? who : least;
    }

    public int walk(int one, int x, int y) {
        if (!isPerson(one) || !isPlace(x) || !isPlace(y)) return BAD;
        return roads.walked(x, y, folk.knows[one]);
    }

    // ---- worth that was told

    public int tells(int sheet, int one, int what) {
        Sheet told = sheetOf(sheet);
        if (told == null || !isPerson(one) || what < 0 || what > 5) return BAD;
        if (told.isMissing()) return NOTHING;
        if (told.size != PLACES) return BAD;
        return what == 0 ? firstOtherwise(told, folk, one) : couldBe(told, one, what);
    }

    private int firstOtherwise(Sheet told, Folk f, int one) {
        for (int t = 0; t < PLACES; t++) {
            if (told.items[t] != market.worth(f, one, t)) return t;
        }
        return NONE;
    }

    /** Those KINDS, NUMBERS, PLACES, TEXTS or PEOPLE (what 1 .. 5; bits) by which all would be as the SHEET tells. */
    private int couldBe(Sheet told, int one, int what) {
        thought.become(folk);
        int choices = choicesOf(what);
        int bits = 0;
        for (int i = 0; i < choices; i++) {
            int who = one;
            switch (what) {
                case 1: thought.kind[one] = i; break;
                case 2: thought.number[one] = i; break;
                case 3: thought.place[one] = i; break;
                case 4: thought.rule = i; break;
                default: who = i;
            }
            if (firstOtherwise(told, thought, who) == NONE) bits |= 1 << i;
        }
        return bits;
    }

    private int choicesOf(int what) {
        switch (what) {
            case 1: return Kinds.COUNT;
            case 2: return MOST_NUMBER + 1;
            case 3: return PLACES;
            case 4: return rules.size;
            default: return folk.size;
        }
    }

    public int film(int sheet, int one) {
        Sheet row = sheetOf(sheet);
        if (row == null || !isPerson(one)) return BAD;
        row.become(SHORTS, PLACES);
        int sum = 0;
        for (int t = 0; t < PLACES; t++) {
            int worth = market.worth(folk, one, t);
            row.put(t, worth);
            sum += worth;
        }
        return sum;
    }

    public int drawn(int seed) {
        thought.become(folk);
        int z = seed;
        for (int i = 0; i < thought.size; i++) {
            z = z * 1103515245 + 12345;
            thought.knows[i] = (z >>> 9) % 256;
        }
        market.rounds(thought, DRAWN_ROUNDS, NONE);
        return thought.ways(NONE);
    }

    public long chance(int seed, int m, int k, int part) {
        if (m < 1 || m > MOST_SEEDS || k < 0 || k > MOST_DRAWN || part < 0 || part > 1) return NO;
        int above = 0;
        for (int i = 0; i < m; i++) {
            if (drawn(seed + i) >= k) above++;
        }
        int divisor = greatestDivisor(above, m);
        return part == 0 ? above / divisor : m / divisor;
    }

    /** Of two numbers, the second of which is 1 or more: never below 1. */
    private static int greatestDivisor(int one, int other) {
        for (int d = other; d > 1; d--) {
            if (one % d == 0 && other % d == 0) return d;
        }
        return 1;
    }

    public int image() {
        keptRoads.become(roads);
        keptFolk.become(folk);
        kept = true;
        return folk.size;
    }

    public int back() {
        if (!kept) return STATE;
        roads.become(keptRoads);
        folk.become(keptFolk);
        return folk.size;
    }

    public int count(int what) {
        switch (what) {
            case 0: return folk.size;
            case 1: return roads.size();
            case 2: return folk.minutesOfAll();
            case 3: return rules.size;
            case 4: return reader.size;
            case 5: return folk.rule;
            default: return BAD;
        }
    }

    // ---- the host

    public int sheet(int sheet, int sort, int n) {
        Sheet row = sheetOf(sheet);
        if (row == null || sort < NONE || sort > INTS) return BAD;
        if (sort == NONE) {
            row.become(NONE, 0);
            return 1;
        }
        if (n > MOST_ITEMS) return BAD;
        if (n < 0) return BELOW;
        row.become(sort, n);
        return 1;
    }

    public int cell(int sheet, int i, int v) {
        Sheet row = sheetOf(sheet);
        if (row == null) return BAD;
        if (row.isMissing()) return NOTHING;
        if (!row.has(i, 1)) return OUTSIDE;
        row.put(i, v);
        return 1;
    }

    public int copy(int sheet, int i, int other, int j, int n) {
        Sheet from = sheetOf(sheet);
        Sheet to = sheetOf(other);
        if (from == null || to == null) return BAD;
        if (from.isMissing() || to.isMissing()) return NOTHING;
        if (from.sort != to.sort) return UNLIKE;
        if (!from.has(i, n) || !to.has(j, n)) return OUTSIDE;
        System.arraycopy(from.items, i, to.items, j, n);
        return n;
    }

    public int people(int sheet, int sort, int from, int n) {
        Sheet row = sheetOf(sheet);
        if (row == null || sort < BYTES || sort > INTS || n < 0 || n > MOST_PEOPLE) return BAD;
        // Taking nothing for something of a sort succeeds, so a missing SHEET is refused only after that.
        if (!row.isMissing() && row.sort != sort) return UNLIKE;
        if (row.isMissing()) return NOTHING;
        int came = 0;
        for (int k = 0; k < n; k++) {
            // from is within the row once the first three were, so that this can't pass an int's bounds.
            int at = from + 3 * k;
            if (!row.has(at, 3)) return OUTSIDE;
            if (person(row.items[at], row.items[at + 1], row.items[at + 2]) >= 0) came++;
        }
        return came;
    }

    public int taken(int one, int k) {
        if (!Kinds.isKind(k)) return BAD;
        if (!isPerson(one)) return NOTHING;
        return Kinds.isUnder(folk.kind[one], k) ? folk.number[one] : UNLIKE;
    }

    private boolean isPerson(int one) {
        return one >= 0 && one < folk.size;
    }

    private static boolean isPlace(int t) {
        return t >= 0 && t < PLACES;
    }

    private Sheet sheetOf(int sheet) {
        return sheet >= 0 && sheet < SHEETS ? sheets[sheet] : null;
    }

    /** What each KIND makes of what THE RULE says. */
    private static final class Kinds {
        static final int LOCAL = 0, MISER = 1, BOY = 2, JUDGE = 3, TINKER = 4, ALMSMAN = 5, COUNT = 6;
        static final int MOST = 999;

        /** The KIND that each one is under. */
        static final int[] ABOVE = {NONE, LOCAL, LOCAL, MISER, BOY, LOCAL};

        static boolean isKind(int kind) {
            return kind >= 0 && kind < COUNT;
        }

        static boolean isUnder(int kind, int other) {
            int k = kind;
            for (int i = 0; i < COUNT && isKind(k); i++) {
                if (k == other) return true;
                k = ABOVE[k];
            }
            return false;
        }

        static boolean takes(Folk f, int one, int t, boolean yes) {
            boolean wanted = (f.wants[one] >> t & 1) != 0;
            boolean even = t % 2 == 0;
            switch (f.kind[one]) {
                case LOCAL: return yes;
                case MISER: return wanted && yes;
                case BOY: return even || yes;
                case JUDGE: return wanted && yes || t == f.number[one] % PLACES;
                case TINKER: return (even || yes) && t != f.place[one];
                default: return false;
            }
        }

        static int worth(int kind, int number, int v) {
            int worth = 0;
            switch (kind) {
                case LOCAL: worth = v; break;
                case MISER: worth = 2 * v; break;
                case BOY: worth = v + number; break;
                case JUDGE: worth = 2 * v + 5; break;
                case TINKER: worth = (v + number) / 2; break;
                default: break;
            }
            return Math.max(0, Math.min(MOST, worth));
        }

        static int time(int kind, int number, int v) {
            int time = 20;
            switch (kind) {
                case LOCAL: case MISER: time = v; break;
                case BOY: time = v / 2; break;
                case JUDGE: time = v + number; break;
                case TINKER: time = v / 2 + 1; break;
                default: break;
            }
            return Math.max(0, Math.min(MOST, time));
        }

        static boolean tellsFree(int kind, int number) {
            return kind == ALMSMAN || kind == TINKER && number > 6;
        }
    }

    /** ROADS, and how far it is by them. */
    private static final class Roads {
        final int[] miles = new int[PLACES * PLACES];
        /** How far it is from each PLACE to each; a PLACE's row holds if its bit in surveyed is 1. */
        final int[] far = new int[PLACES * PLACES];
        final int[] steps = new int[PLACES];
        int surveyed = 0;
        /** Another one behind every change, so that what was worked out ahead of it is known to be stale. */
        int version = 0;

        int lay(int one, int other, int length) {
            int was = miles[one * PLACES + other];
            miles[one * PLACES + other] = length;
            miles[other * PLACES + one] = length;
            surveyed = 0;
            version++;
            return was;
        }

        void become(Roads other) {
            System.arraycopy(other.miles, 0, miles, 0, PLACES * PLACES);
            surveyed = 0;
            version++;
        }

        int size() {
            int size = 0;
            for (int one = 0; one < PLACES; one++) {
                for (int other = one + 1; other < PLACES; other++) {
                    if (miles[one * PLACES + other] != 0) size++;
                }
            }
            return size;
        }

        int farFrom(int from, int to) {
            if ((surveyed >> from & 1) == 0) {
                spread(from, ALL_WAYS, far, from * PLACES);
                surveyed |= 1 << from;
            }
            return far[from * PLACES + to];
        }

        int walked(int from, int to, int known) {
            spread(from, known, steps, 0);
            return steps[to] == NO_WAY ? NONE : steps[to];
        }

        int reach(int from, int known) {
            spread(from, known, steps, 0);
            int bits = 0;
            for (int t = 0; t < PLACES; t++) {
                if (steps[t] != NO_WAY) bits |= 1 << t;
            }
            return bits;
        }

        /** Puts the least miles from one PLACE to each, going to known ones alone, into a row from item first on. */
        private void spread(int from, int known, int[] row, int first) {
            for (int t = 0; t < PLACES; t++) row[first + t] = NO_WAY;
            row[first + from] = 0;
            boolean nearer = true;
            for (int pass = 0; pass < PLACES && nearer; pass++) {
                nearer = false;
                for (int by = 0; by < PLACES; by++) {
                    if (row[first + by] == NO_WAY) continue;
                    for (int t = 0; t < PLACES; t++) {
                        int length = miles[by * PLACES + t];
                        if (length == 0 || (known >> t & 1) == 0) continue;
                        if (row[first + by] + length < row[first + t]) {
                            row[first + t] = row[first + by] + length;
                            nearer = true;
                        }
                    }
                }
            }
        }
    }

    /** PEOPLE, with ROUND and the number of THE RULE: all that rounds look at or change but the ROADS. */
    private static final class Folk {
        int size = 0;
        int round = 0;
        int rule = 0;
        final int[] kind = new int[MOST_PEOPLE];
        final int[] number = new int[MOST_PEOPLE];
        final int[] place = new int[MOST_PEOPLE];
        final int[] knows = new int[MOST_PEOPLE];
        final int[] wants = new int[MOST_PEOPLE];
        final int[] minutes = new int[MOST_PEOPLE];

        int add(int itsKind, int itsNumber, int itKnows) {
            if (size >= MOST_PEOPLE) return FULL;
            kind[size] = itsKind;
            number[size] = itsNumber;
            place[size] = 0;
            knows[size] = itKnows;
            wants[size] = 0;
            minutes[size] = 0;
            return size++;
        }

        void become(Folk other) {
            size = other.size;
            round = other.round;
            rule = other.rule;
            for (int i = 0; i < MOST_PEOPLE; i++) {
                kind[i] = other.kind[i];
                number[i] = other.number[i];
                place[i] = other.place[i];
                knows[i] = other.knows[i];
                wants[i] = other.wants[i];
                minutes[i] = other.minutes[i];
            }
        }

        /** By the numbers that set() and told() have for it. */
        int[] row(int what) {
            switch (what) {
                case 1: return number;
                case 2: return place;
                case 3: return knows;
                case 4: return wants;
                case 5: return kind;
                default: return minutes;
            }
        }

        boolean isKnown(int one, int t) {
            return (knows[one] >> t & 1) != 0;
        }

        void spend(int one, int time) {
            minutes[one] = Math.min(MOST_MINUTES, minutes[one] + time);
        }

        /** How many all but one KNOW, together (NONE: all). */
        int ways(int but) {
            int sum = 0;
            for (int i = 0; i < size; i++) {
                if (i != but) sum += Integer.bitCount(knows[i]);
            }
            return sum;
        }

        /** What anybody but one KNOWS (NONE: anybody). */
        int knownByAny(int but) {
            int bits = 0;
            for (int i = 0; i < size; i++) {
                if (i != but) bits |= knows[i];
            }
            return bits;
        }

        int knownByAll() {
            int bits = ALL_WAYS;
            for (int i = 0; i < size; i++) bits &= knows[i];
            return bits;
        }

        int hoard(int one) {
            return knows[one] & ~knownByAny(one);
        }

        int minutesOfAll() {
            int sum = 0;
            for (int i = 0; i < size; i++) sum += minutes[i];
            return sum;
        }
    }

    /** A TEXT, as code in which what is joined stands ahead of what joins it. */
    private static final class Text {
        static final int TAKES = 0, WORTH = 1, TIMES = 2, PARTS = 3, MOST = 99;
        static final int PLACE = 0, NUMBER = 1, KNOWN = 2, FAR = 3, HERE = 4, ROUND = 5, NAMES = 6;
        static final int OR = 0, AND = 1, NOT = 2, LESS = 3, EQUAL = 4, PLUS = 5, LESS_BY = 6, TIMES_BY = 7, MINUS = 8;
        /** In code, numbers stand for themselves, NAMES from here downward, what joins further down. */
        static final int FIRST_NAME = -1, FIRST_JOIN = FIRST_NAME - NAMES;
        /** Each of the six depths of brackets has at most five numbers waiting for what joins them. */
        static final int DEEPEST = 40;

        final int[] code;
        final int[] ends = new int[PARTS];
        final boolean namesKnown;
        final boolean namesRound;

        Text(int[] code, int takesEnd, int worthEnd) {
            this.code = code;
            ends[TAKES] = takesEnd;
            ends[WORTH] = worthEnd;
            ends[TIMES] = code.length;
            boolean known = false;
            boolean round = false;
            for (int i = 0; i < code.length; i++) {
                if (code[i] == FIRST_NAME - KNOWN) known = true;
                if (code[i] == FIRST_NAME - ROUND) round = true;
            }
            namesKnown = known;
            namesRound = round;
        }

        /** What one part is, given what the NAMES are; the stack is room to work in. */
        int value(int part, int[] names, int[] stack) {
            int height = 0;
            for (int i = part == TAKES ? 0 : ends[part - 1]; i < ends[part]; i++) {
                int c = code[i];
                if (c > FIRST_JOIN) {
                    if (height >= DEEPEST) return 0;
                    stack[height] = c >= 0 ? c : names[FIRST_NAME - c];
                    height++;
                    continue;
                }
                int join = FIRST_JOIN - c;
                if (join == NOT || join == MINUS) {
                    if (height < 1) return 0;
                    int v = stack[height - 1];
                    stack[height - 1] = join == MINUS ? -v : v == 0 ? 1 : 0;
                    continue;
                }
                if (height < 2) return 0;
                height--;
                stack[height - 1] = joined(join, stack[height - 1], stack[height]);
            }
            return height < 1 ? 0 : stack[0];
        }

        private static int joined(int join, int x, int y) {
            switch (join) {
                case OR: return x != 0 || y != 0 ? 1 : 0;
                case AND: return x != 0 && y != 0 ? 1 : 0;
                case LESS: return x < y ? 1 : 0;
                case EQUAL: return x == y ? 1 : 0;
                case PLUS: return x + y;
                case LESS_BY: return x - y;
                default: return x * y;
            }
        }
    }

    /** THE TAPE, and the reading of a TEXT from it, with one TOKEN at hand ahead of what is read. */
    private static final class Reader {
        /** TOKENS; the signs are their own bytes. KEYS and NAMES are numbered as WORDS has them. */
        static final int END = 0, BROKEN = 1, NUMBER = 2, NAME = 3, FIRST_KEY = 10;
        static final int TAKES = 10, WORTH = 11, TIMES = 12, OR = 13, AND = 14, NOT = 15, KEYS = 6;
        static final String WORDS = "takes worth times or and not place number known far here round ";
        static final String SIGNS = "();+-*<=";
        static final int MOST_DIGITS = 4, MOST_OPEN = 5;
        /** The levels of the grammar, each made of the next; ONE is the last. */
        static final int E = 0, BOTH = 1, DENIAL = 2, SUM = 3, TERM = 4, ONE = 5;

        final int[] tape = new int[MOST_BYTES];
        int size = 0;
        /** Where the last reading failed; NONE: it didn't. */
        int fault = NONE;
        int token = END;
        int tokenAt = 0;
        int tokenValue = 0;
        int next = 0;
        int open = 0;
        final int[] code = new int[MOST_BYTES];
        int length = 0;

        int add(int letter) {
            if (size >= MOST_BYTES) return FULL;
            tape[size] = letter;
            size++;
            return size;
        }

        void write(String letters) {
            for (int i = 0; i < letters.length(); i++) add(letters.charAt(i));
        }

        /** Empties THE TAPE; null: there is a fault. */
        Text read() {
            fault = NONE;
            next = 0;
            open = 0;
            length = 0;
            advance();
            expect(TAKES);
            phrase(E);
            expect(';');
            int takesEnd = length;
            expect(WORTH);
            phrase(E);
            expect(';');
            int worthEnd = length;
            expect(TIMES);
            phrase(E);
            expect(';');
            if (token != END) fail();
            size = 0;
            return fault == NONE ? new Text(Arrays.copyOf(code, length), takesEnd, worthEnd) : null;
        }

        /** One level of the grammar; the MOST_OPEN that may be open keep it from going deep. */
        private void phrase(int level) {
            if (level >= ONE) {
                one();
                return;
            }
            if (level == DENIAL && token == NOT) {
                if (!opens()) return;
                advance();
                phrase(DENIAL);
                open--;
                emit(Text.FIRST_JOIN - Text.NOT);
                return;
            }
            phrase(level + 1);
            int most = level == DENIAL ? 1 : MOST_BYTES;
            for (int n = 0; n < most; n++) {
                int join = joinAt(level);
                if (join == NONE) return;
                advance();
                phrase(level + 1);
                emit(Text.FIRST_JOIN - join);
            }
        }

        /** What the TOKEN joins at this level; NONE: it doesn't. */
        private int joinAt(int level) {
            switch (token) {
                case OR: return level == E ? Text.OR : NONE;
                case AND: return level == BOTH ? Text.AND : NONE;
                case '<': return level == DENIAL ? Text.LESS : NONE;
                case '=': return level == DENIAL ? Text.EQUAL : NONE;
                case '+': return level == SUM ? Text.PLUS : NONE;
                case '-': return level == SUM ? Text.LESS_BY : NONE;
                case '*': return level == TERM ? Text.TIMES_BY : NONE;
                default: return NONE;
            }
        }

        private void one() {
            switch (token) {
                case NUMBER:
                    emit(tokenValue);
                    advance();
                    return;
                case NAME:
                    emit(Text.FIRST_NAME - tokenValue);
                    advance();
                    return;
                case '-':
                    if (!opens()) return;
                    advance();
                    one();
                    open--;
                    emit(Text.FIRST_JOIN - Text.MINUS);
                    return;
                case '(':
                    if (!opens()) return;
                    advance();
                    phrase(E);
                    expect(')');
                    open--;
                    return;
                default:
                    fail();
            }
        }

        private boolean opens() {
            if (open >= MOST_OPEN) {
                fail();
                return false;
            }
            open++;
            return true;
        }

        private void expect(int due) {
            if (token == due) advance();
            else fail();
        }

        /** The first fault counts; no TOKEN is taken behind it, since nothing wants a BROKEN one. */
        private void fail() {
            if (fault == NONE) fault = tokenAt;
            token = BROKEN;
        }

        private void emit(int c) {
            if (length >= MOST_BYTES) return;
            code[length] = c;
            length++;
        }

        private void advance() {
            if (fault != NONE) return;
            while (next < size && (tape[next] == ' ' || tape[next] == '\n')) next++;
            tokenAt = next;
            if (next >= size) {
                token = END;
                return;
            }
            int first = tape[next];
            next++;
            if (first >= 'a' && first <= 'z') takeWord();
            else if (first >= '0' && first <= '9') takeNumber();
            else token = SIGNS.indexOf((char) first) >= 0 ? first : BROKEN;
        }

        /** Looks up in WORDS what stands on THE TAPE from tokenAt on. */
        private void takeWord() {
            while (next < size && tape[next] >= 'a' && tape[next] <= 'z') next++;
            token = BROKEN;
            int word = 0;
            int at = tokenAt;
            boolean alike = true;
            for (int i = 0; i < WORDS.length() && token == BROKEN; i++) {
                char c = WORDS.charAt(i);
                if (c != ' ') {
                    alike = alike && at < next && tape[at] == c;
                    at++;
                    continue;
                }
                if (alike && at == next) {
                    token = word < KEYS ? FIRST_KEY + word : NAME;
                    tokenValue = word - KEYS;
                }
                word++;
                at = tokenAt;
                alike = true;
            }
        }

        private void takeNumber() {
            while (next < size && tape[next] >= '0' && tape[next] <= '9') next++;
            token = next - tokenAt > MOST_DIGITS ? BROKEN : NUMBER;
            tokenValue = 0;
            for (int i = tokenAt; i < next && token == NUMBER; i++) tokenValue = tokenValue * 10 + tape[i] - '0';
        }
    }

    /** What a TEXT has said of one of PEOPLE, kept as long as nothing that it looks at has changed. */
    private static final class View {
        long key = NONE;
        int done = 0;
        final int[] said = new int[Text.PARTS * PLACES];
    }

    /** The TEXTS, and what they say of PEOPLE and PLACES. */
    private static final class Rules {
        final Roads roads;
        final Text[] texts = new Text[MOST_TEXTS];
        int size = 0;
        final View[] views = new View[MOST_PEOPLE];
        final int[] names = new int[Text.NAMES];
        final int[] stack = new int[Text.DEEPEST];

        Rules(Roads roads) {
            this.roads = roads;
            for (int i = 0; i < MOST_PEOPLE; i++) views[i] = new View();
        }

        int add(Text text) {
            if (size >= MOST_TEXTS) return FULL;
            texts[size] = text;
            return size++;
        }

        /** What a part of THE RULE says of one and the way to t; worth and times within their bounds. */
        int says(Folk f, int one, int part, int t) {
            Text text = texts[f.rule];
            if (text == null) return 0;
            View view = views[one];
            long key = keyOf(f, one, text);
            if (view.key != key) {
                view.key = key;
                view.done = 0;
            }
            int cell = part * PLACES + t;
            if ((view.done >> cell & 1) != 0) return view.said[cell];
            names[Text.PLACE] = t;
            names[Text.NUMBER] = f.number[one];
            names[Text.KNOWN] = Integer.bitCount(f.knows[one]);
            names[Text.FAR] = roads.farFrom(f.place[one], t);
            names[Text.HERE] = f.place[one] == t ? 1 : 0;
            names[Text.ROUND] = f.round;
            int v = text.value(part, names, stack);
            view.said[cell] = part == Text.TAKES ? v : Math.max(0, Math.min(Text.MOST, v));
            view.done |= 1 << cell;
            return view.said[cell];
        }

        /** A number that is another one whenever the text could say something else. */
        private long keyOf(Folk f, int one, Text text) {
            long key = roads.version;
            key = key * MOST_TEXTS + f.rule;
            key = key * PLACES + f.place[one];
            key = key * (MOST_NUMBER + 1) + f.number[one];
            key = key * (PLACES + 1) + (text.namesKnown ? Integer.bitCount(f.knows[one]) : 0);
            return key * (MOST_ROUND + LONG_RUN + 1) + (text.namesRound ? f.round : 0);
        }

        /** Whether what it says may be another thing in another ROUND. */
        boolean namesRound(int rule) {
            Text text = texts[rule];
            return text == null || text.namesRound;
        }
    }

    /** TRADES and ROUNDS among PEOPLE, truly or in thought. */
    private static final class Market {
        final Rules rules;

        Market(Rules rules) {
            this.rules = rules;
        }

        boolean takes(Folk f, int one, int t) {
            return Kinds.takes(f, one, t, rules.says(f, one, Text.TAKES, t) != 0);
        }

        int worth(Folk f, int one, int t) {
            return Kinds.worth(f.kind[one], f.number[one], rules.says(f, one, Text.WORTH, t));
        }

        int time(Folk f, int one, int t) {
            return Kinds.time(f.kind[one], f.number[one], rules.says(f, one, Text.TIMES, t));
        }

        /** What a tells b for the way to t; FOR_NOTHING; NONE: there is no TRADE. */
        int payment(Folk f, int a, int b, int t) {
            if (!f.isKnown(b, t) || f.isKnown(a, t)) return NONE;
            if (Kinds.tellsFree(f.kind[b], f.number[b])) return FOR_NOTHING;
            int best = NONE;
            int least = 0;
            int ways = f.knows[a] & ~f.knows[b];
            for (int p = 0; p < PLACES; p++) {
                if ((ways >> p & 1) == 0 || !takes(f, b, p)) continue;
                int worth = worth(f, a, p);
                if (best == NONE || worth < least) {
                    best = p;
                    least = worth;
                }
            }
            return best;
        }

        void deal(Folk f, int a, int b, int t, int pay) {
            boolean paid = pay != FOR_NOTHING;
            int timeOfA = paid ? time(f, a, pay) : 0;
            int timeOfB = time(f, b, t);
            f.spend(a, timeOfA);
            f.spend(b, timeOfB);
            f.knows[a] |= 1 << t;
            if (paid) f.knows[b] |= 1 << pay;
        }

        /** n ROUNDS, in which one neither asks nor is asked (NONE: all do): how many TRADES. */
        int rounds(Folk f, int n, int without) {
            int deals = 0;
            for (int i = 0; i < n; i++) {
                int before = deals;
                for (int a = 0; a < f.size; a++) {
                    for (int b = 0; b < f.size; b++) {
                        if (a == b || a == without || b == without) continue;
                        int t = firstAsked(f, a, b);
                        int pay = t == NONE ? NONE : payment(f, a, b, t);
                        if (pay == NONE) continue;
                        deal(f, a, b, t, pay);
                        deals++;
                    }
                }
                f.round++;
                if (deals == before && restsForGood(f)) return deals;
            }
            return deals;
        }

        /** Whether ROUNDS behind one without a TRADE, which leaves all as it was but ROUND, bring none either. */
        boolean restsForGood(Folk f) {
            return !rules.namesRound(f.rule);
        }

        /** The first way that a WANTS of b. What b must be told is the same for each of them, so that no other need be tried. */
        private int firstAsked(Folk f, int a, int b) {
            int ways = f.wants[a] & f.knows[b] & ~f.knows[a];
            if (ways == 0) return NONE;
            for (int t = 0; t < PLACES; t++) {
                if ((ways >> t & 1) != 0) return t;
            }
            return NONE;
        }
    }

    /** A row of numbers, or missing: then its sort is NONE. */
    private static final class Sheet {
        int sort = NONE;
        int size = 0;
        final int[] items = new int[MOST_ITEMS];

        void become(int itsSort, int itsSize) {
            sort = itsSort;
            size = itsSize;
            Arrays.fill(items, 0);
        }

        boolean isMissing() {
            return sort == NONE;
        }

        /** Whether n items from i on are all within; n and i may be any ints. */
        boolean has(int i, int n) {
            return i >= 0 && n >= 0 && i <= size && n <= size - i;
        }

        void put(int i, int v) {
            items[i] = sort == BYTES ? (byte) v : sort == SHORTS ? (short) v : v;
        }
    }
}
