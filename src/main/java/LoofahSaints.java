/** Loofahs that are used on novices: what comes off, how each wears, and what could be done best. */
public final class LoofahSaints {
    public static final int NONE = -1, BAD = -2, STATE = -3, FULL = -4;
    public static final long NO = Long.MIN_VALUE;

    private static final int NOT_THERE = -5, LOW_NONE = -10001;
    private static final int NOTHING = -11, CAST = -12, PLACE = -13, SIZE = -14;
    private static final int FAULT_BASE = -10, JUDGE_ENDS = 100;

    private static final int SAINTS = 6, NOVICES = 4, DOCTRINES = 12, SETS = 4096;
    private static final int KINDS = 7, NUMBERS = 10, PARTS = 4, THREAD = 99, LASTS = 200;
    private static final int DAYS = 60, LAST_DAY = 9999, SCRUBBERS = 3;
    private static final int SEEN_ROWS = 5, PLAN_ROWS = 8, BOOK_ROWS = 8, NO_ONE = -1;
    private static final int TEXT = 100, SIGNS = 128, ORDERS = 6, CLAUSES = 10, NESTED = 4;
    private static final int HARD = 6, SUM = 3;
    private static final int TAPES = 6, ITEMS = 60;

    private static final int FOUNDER = 1, ABBOT = 2, HERETIC = 3, PITH = 4, RATTLE = 5, TOLD = 6;
    /** The KIND above each KIND. */
    private static final int[] ABOVE = {-1, 0, 0, 0, FOUNDER, ABBOT, HERETIC};

    private static final int PLAN_DAY = 0, PLAN_USE = 1, PLAN_NEW = 2, PLAN_UNPEG = 3;
    private static final int EMPTY = -1, BYTES = 0, SHORTS = 1, INTS = 2, LONGS = 3, BOOLEANS = 4;

    private final Order[] orders = new Order[ORDERS];
    private final Tape[] tapes = new Tape[TAPES];
    private final Reader reader = new Reader();
    private final Sharing sharing = new Sharing();
    private final Scrubbing scrubbing = new Scrubbing();
    private final Acts acts = new Acts();
    private final Saint supposed = new Saint(0);
    private final House now;
    /** Where all that is only asked is tried, so that nothing changes by it. */
    private final House ahead;
    private final House kept;
    private int orderCount = 0;
    private boolean isKept = false;

    public LoofahSaints() {
        Order without = new Order(0);
        now = new House(without);
        ahead = new House(without);
        kept = new House(without);
        for (int i = 0; i < ORDERS; i++) {
            orders[i] = new Order(TEXT);
        }
        for (int i = 0; i < TAPES; i++) {
            tapes[i] = new Tape();
        }
    }

    // ---- saints, novices, orders

    public int saint(int kind, int v, int holes) {
        if (!isKind(kind)) return NONE;
        if (v < 0 || v >= NUMBERS || !isSet(holes)) return BAD;
        if (now.size >= SAINTS) return FULL;
        now.saints[now.size].begin(kind, v, holes);
        return now.size++;
    }

    public int of(int saint, int what) {
        if (!now.has(saint)) return LOW_NONE;
        Saint s = now.saints[saint];
        if (isNovice(what - 10)) return now.takes(s, what - 10);
        switch (what) {
            case 0: return s.kind;
            case 1: return s.v;
            case 2: return s.holes;
            case 3: return s.wear;
            case 4: return s.wet ? 1 : 0;
            case 5: return someone(s.peg);
            case 6: return s.grit(now.held, now.day);
            case 7: return s.lasts(now.held.hard);
            default: return LOW_NONE;
        }
    }

    public int set(int saint, int what, int n) {
        if (!now.has(saint) || what < 0 || what > 1) return NONE;
        Saint s = now.saints[saint];
        if (what == 0) {
            if (!isSet(n)) return BAD;
            int holes = s.holes;
            s.holes = n;
            return holes;
        }
        if (n < 0 || n > THREAD) return BAD;
        int wear = s.wear;
        s.wear = n;
        return wear;
    }

    public int peg(int saint, int novice) {
        if (!now.has(saint) || novice != NO_ONE && !isNovice(novice)) return NONE;
        Saint s = now.saints[saint];
        int peg = s.peg;
        s.peg = novice;
        return someone(peg);
    }

    public int novice(int novice, int what, int doctrines) {
        if (!isNovice(novice) || what < 0 || what > 1) return NONE;
        if (!isSet(doctrines)) return BAD;
        int[] of = what == 0 ? now.on : now.grows;
        int was = of[novice];
        of[novice] = doctrines;
        return was;
    }

    public int use(int saint, int novice) {
        if (!now.has(saint) || !isNovice(novice)) return NONE;
        if (now.saints[saint].isThread()) return STATE;
        return now.scrub(now.saints[saint], novice);
    }

    public int row(int saint, int part, int n) {
        if (!now.has(saint) || part < 0 || part >= PARTS) return NONE;
        if (n < 0 || n >= NUMBERS) return BAD;
        Saint s = now.saints[saint];
        if (s.kind != TOLD) return STATE;
        int was = s.row[part];
        s.row[part] = n;
        return was;
    }

    public int feed(int sign) {
        if (sign < 0 || sign >= SIGNS) return BAD;
        if (reader.length >= TEXT) return FULL;
        reader.text[reader.length] = sign;
        reader.length++;
        return reader.length;
    }

    public int order() {
        if (orderCount >= ORDERS) return FULL;
        Order next = orders[orderCount];
        boolean isOrder = reader.reads(next);
        reader.length = 0;
        if (!isOrder) return FAULT_BASE - reader.at;
        now.held = next;
        return orderCount++;
    }

    public int told(int what) {
        if (isNovice(what - 10)) return now.on[what - 10];
        if (isNovice(what - 20)) return now.grows[what - 20];
        if (isNovice(what - 30)) return daysTillClean(what - 30);
        switch (what) {
            case 0: return now.day;
            case 1: return now.held.hard;
            case 2: return now.onAll();
            case 3: return now.threads();
            case 4: return sharing.dearest(now);
            case 5: return sharing.leastWithout(now);
            default: return NONE;
        }
    }

    // ---- days

    public int pass(int n) {
        if (n < 0 || n > DAYS) return BAD;
        if (now.day + n > LAST_DAY) return STATE;
        now.goDays(n);
        return now.day;
    }

    public int on(int n, int what) {
        if (what != 0 && !isNovice(what - 10) && !now.has(what - 20)) return NONE;
        if (n < 0 || n > DAYS) return BAD;
        ahead.copy(now);
        ahead.goDays(n);
        if (what == 0) return ahead.onAll();
        return isNovice(what - 10) ? ahead.on[what - 10] : ahead.saints[what - 20].wear;
    }

    private int daysTillClean(int novice) {
        ahead.copy(now);
        for (int days = 0; days <= DAYS; days++) {
            if (ahead.on[novice] == 0) return days;
            ahead.goDay();
        }
        return NOT_THERE;
    }

    // ---- sharing, scrubbing

    public int shared(int what) {
        if (what != 0 && !now.has(what - 10)) return NONE;
        sharing.share(now, NO_ONE);
        return what == 0 ? sharing.most : sharing.givenTo(what - 10);
    }

    public int scrubbed(int novice, int n, int k) {
        if (!isNovice(novice) || k < -1 || k >= SCRUBBERS) return NONE;
        if (n < 1 || n > SCRUBBERS) return BAD;
        if (k >= n || now.size < n) return NOT_THERE;
        scrubbing.choose(now, novice, n);
        return k < 0 ? scrubbing.least : scrubbing.best[k];
    }

    // ---- seen, odds

    public int see(int saint, int novice, int doctrines) {
        if (saint == NO_ONE) return now.seen.clear();
        if (!now.has(saint) || !isNovice(novice)) return NONE;
        if (!isSet(doctrines)) return BAD;
        return now.seen.add(saint, novice, doctrines);
    }

    public int holed(int saint, int what) {
        if (!now.has(saint) || what < 0 || what > 1) return NONE;
        supposed.copy(now.saints[saint]);
        // no HOLES change it, and it is dear to reckon for each set
        int grit = supposed.grit(now.held, now.day);
        int many = 0, least = NOT_THERE;
        for (int set = 0; set < SETS; set++) {
            supposed.holes = set;
            if (!now.isAsSeen(saint, supposed, grit)) continue;
            if (many == 0) least = set;
            many++;
        }
        return what == 0 ? many : least;
    }

    public int can(int saint, int what) {
        if (!now.has(saint) || what < 0 || what > 1) return NONE;
        supposed.copy(now.saints[saint]);
        int many = 0, least = NOT_THERE;
        for (int v = 0; v < NUMBERS; v++) {
            supposed.v = v;
            if (!now.isAsSeen(saint, supposed, supposed.grit(now.held, now.day))) continue;
            if (many == 0) least = v;
            many++;
        }
        return what == 0 ? many : least;
    }

    public long odds(int doctrine, int novice, int part) {
        if (doctrine < 0 || doctrine >= DOCTRINES || !isNovice(novice)) return NO;
        if (part < 0 || part > 1 || now.size == 0) return NO;
        int away = 0;
        for (int s = 0; s < now.size; s++) {
            int left = now.on[novice] & ~now.takes(now.saints[s], novice);
            if ((left >> doctrine & 1) == 0) away++;
        }
        return lowest(away, now.size, part);
    }

    public long mean(int n, int part) {
        if (n < 0 || n > DAYS || part < 0 || part > 1 || now.size == 0) return NO;
        ahead.copy(now);
        ahead.goDays(n);
        return lowest(ahead.wearOfAll(), now.size, part);
    }

    private static long lowest(int above, int below, int part) {
        int common = below;
        while (common > 1 && (above % common != 0 || below % common != 0)) {
            common--;
        }
        if (common < 1) return NO;
        return part == 0 ? above / common : below / common;
    }

    // ---- plans, books

    public int plan(int what, int n) {
        if (what == -1) return now.plan.clear();
        if (what < PLAN_DAY || what > PLAN_UNPEG) return NONE;
        if (what == PLAN_USE && (n < 0 || !now.has(n / 10) || !isNovice(n % 10))) return NONE;
        if (what > PLAN_USE && !now.has(n)) return NONE;
        return now.plan.add(what, n, 0);
    }

    public int ends(int what) {
        if (what < 0 || what > 1) return NONE;
        ahead.copy(now);
        for (int i = 0; i < now.plan.size; i++) {
            ahead.follow(now.plan.cell(i, 0), now.plan.cell(i, 1));
        }
        return what == 0 ? ahead.onAll() : ahead.wearOfAll();
    }

    public int book(int novice, int doctrines) {
        if (novice == NO_ONE) return now.book.clear();
        if (!isNovice(novice)) return NONE;
        if (!isSet(doctrines)) return BAD;
        return now.book.add(novice, doctrines, 0);
    }

    public int looked() {
        for (int i = 0; i < now.book.size; i++) {
            int novice = now.book.cell(i, 0);
            if (isNovice(novice) && now.on[novice] != now.book.cell(i, 1)) return i;
        }
        return NOT_THERE;
    }

    // ---- judging, the image, acts, tapes

    public int judge(int tape, int i) {
        if (!isTape(tape)) return NONE;
        Tape t = tapes[tape];
        if (t.sort != EMPTY && t.sort != SHORTS) return CAST;
        for (int novice = 0; novice < NOVICES; novice++) {
            // all places behind the first are asked by what is left, as i may be too large to add to
            if (i < 0 || i >= t.length - novice) return JUDGE_ENDS + novice;
            if (t.items[i + novice] != now.on[novice]) return novice;
        }
        return NOT_THERE;
    }

    public int image() {
        kept.copy(now);
        isKept = true;
        return now.size;
    }

    public int undo() {
        if (!isKept) return STATE;
        now.copy(kept);
        return now.size;
    }

    public int act(int saint, int act, int x) {
        acts.ran = 0;
        if (!now.has(saint) || act < Acts.HANGS || act > Acts.TELLS) return 0;
        return acts.run(now.saints[saint], act, x);
    }

    public int trace(int i) {
        return i < 0 || i >= Math.min(acts.ran, Acts.TRACE) ? NONE : acts.bodies[i];
    }

    public int taken(int saint, int k) {
        if (!isKind(k)) return BAD;
        if (!now.has(saint)) return NOTHING;
        return now.saints[saint].isOf(k) ? now.saints[saint].kind : CAST;
    }

    public int count(int what) {
        switch (what) {
            case 0: return now.size;
            case 1: return orderCount;
            case 2: return now.seen.size;
            case 3: return now.plan.size;
            case 4: return now.book.size;
            case 5: return reader.length;
            case 6: return acts.ran;
            default: return BAD;
        }
    }

    public int tape(int tape, int sort, int n) {
        if (!isTape(tape)) return NONE;
        if (sort == EMPTY) {
            tapes[tape].become(EMPTY, 0);
            return 1;
        }
        if (sort < BYTES || sort > BOOLEANS || n > ITEMS) return BAD;
        if (n < 0) return SIZE;
        tapes[tape].become(sort, n);
        return 1;
    }

    public int item(int tape, int i, long v) {
        if (!isTape(tape)) return NONE;
        Tape t = tapes[tape];
        if (t.sort == EMPTY) return NOTHING;
        if (i < 0 || i >= t.length) return PLACE;
        t.items[i] = t.cut(v);
        return 1;
    }

    public long read(int tape, int i) {
        if (!isTape(tape) || i < 0 || i >= tapes[tape].length) return NO;
        return tapes[tape].items[i];
    }

    public int shift(int tape, int i, int other, int j, int n) {
        if (!isTape(tape) || !isTape(other)) return NONE;
        Tape from = tapes[tape], to = tapes[other];
        if (from.sort == EMPTY || to.sort == EMPTY) return NOTHING;
        if (from.sort != to.sort) return CAST;
        if (n < 0 || i < 0 || j < 0) return PLACE;
        if (i > from.length - n || j > to.length - n) return PLACE;
        System.arraycopy(from.items, i, to.items, j, n);
        return n;
    }

    // ---- what a number may be

    private static boolean isNovice(int n) {
        return n >= 0 && n < NOVICES;
    }

    private static boolean isSet(int n) {
        return n >= 0 && n < SETS;
    }

    private static boolean isKind(int n) {
        return n >= 0 && n < KINDS;
    }

    private static boolean isTape(int n) {
        return n >= 0 && n < TAPES;
    }

    private static int someone(int novice) {
        return novice == NO_ONE ? NOT_THERE : novice;
    }

    /** One SAINT; its places in a House are made once and begun anew. */
    private static final class Saint {
        final int[] row = new int[PARTS];
        int number;
        int kind = 0, v = 0, holes = 0, wear = 0, peg = NO_ONE;
        boolean wet = false;

        Saint(int number) {
            this.number = number;
        }

        void begin(int ofKind, int withV, int withHoles) {
            kind = ofKind;
            v = withV;
            holes = withHoles;
            wear = 0;
            peg = NO_ONE;
            wet = false;
            for (int i = 0; i < PARTS; i++) {
                row[i] = 0;
            }
        }

        void copy(Saint other) {
            number = other.number;
            kind = other.kind;
            v = other.v;
            holes = other.holes;
            wear = other.wear;
            peg = other.peg;
            wet = other.wet;
            System.arraycopy(other.row, 0, row, 0, PARTS);
        }

        boolean isThread() {
            return wear >= THREAD;
        }

        boolean isOf(int k) {
            int at = kind;
            for (int i = 0; i < KINDS && at >= 0 && at != k; i++) {
                at = ABOVE[at];
            }
            return at == k;
        }

        int grit(Order held, int day) {
            int sum = held.sum(this, day);
            switch (kind) {
                case FOUNDER: return sum + v;
                case ABBOT: return sum / 2;
                case PITH: return wet ? sum + v : 0;
                case RATTLE: return sum / 2 + Math.floorMod(day, 2);
                case TOLD: return sum + row[Math.floorMod(day, PARTS)];
                default: return sum;
            }
        }

        int takes(int on, int grit) {
            if (isThread()) return 0;
            int left = isOf(HERETIC) ? on & ~holes : on & holes;
            int off = 0;
            for (int i = 0; i < grit && left != 0; i++) {
                int least = left & -left;
                off |= least;
                left ^= least;
            }
            return off;
        }

        void wearBy(int hard) {
            wear = worn(wear, wet, hard);
            wet = true;
        }

        int lasts(int hard) {
            int then = wear, times = 0;
            boolean soaked = wet;
            while (times < LASTS && then < THREAD) {
                then = worn(then, soaked, hard);
                soaked = true;
                times++;
            }
            return times;
        }

        private static int worn(int wear, boolean wet, int hard) {
            return Math.min(THREAD, wear + (wet ? hard / 2 : hard));
        }
    }

    /** Rows of up to three numbers, told by hand. */
    private static final class Rows {
        private static final int WIDTH = 3;
        final int[] cells;
        final int limit;
        int size = 0;

        Rows(int limit) {
            this.limit = limit;
            cells = new int[limit * WIDTH];
        }

        int clear() {
            size = 0;
            return size;
        }

        int add(int first, int second, int third) {
            if (size >= limit) return FULL;
            cells[size * WIDTH] = first;
            cells[size * WIDTH + 1] = second;
            cells[size * WIDTH + 2] = third;
            size++;
            return size;
        }

        int cell(int row, int column) {
            if (row < 0 || row >= size || column < 0 || column >= WIDTH) return 0;
            return cells[row * WIDTH + column];
        }

        void copy(Rows other) {
            size = Math.min(other.size, limit);
            System.arraycopy(other.cells, 0, cells, 0, size * WIDTH);
        }
    }

    /** All that THE IMAGE keeps. */
    private static final class House {
        final Saint[] saints = new Saint[SAINTS];
        final int[] on = new int[NOVICES];
        final int[] grows = new int[NOVICES];
        final Rows seen = new Rows(SEEN_ROWS);
        final Rows plan = new Rows(PLAN_ROWS);
        final Rows book = new Rows(BOOK_ROWS);
        int size = 0;
        int day = 0;
        Order held;

        House(Order held) {
            this.held = held;
            for (int i = 0; i < SAINTS; i++) {
                saints[i] = new Saint(i);
            }
        }

        void copy(House other) {
            for (int i = 0; i < other.size; i++) {
                saints[i].copy(other.saints[i]);
            }
            System.arraycopy(other.on, 0, on, 0, NOVICES);
            System.arraycopy(other.grows, 0, grows, 0, NOVICES);
            seen.copy(other.seen);
            plan.copy(other.plan);
            book.copy(other.book);
            size = other.size;
            day = other.day;
            held = other.held;
        }

        boolean has(int saint) {
            return saint >= 0 && saint < size;
        }

        int takes(Saint s, int novice) {
            return s.takes(on[novice], s.grit(held, day));
        }

        /** A SAINT is USED. */
        int scrub(Saint s, int novice) {
            int off = s.takes(on[novice], s.grit(held, day));
            on[novice] &= ~off;
            s.wearBy(held.hard);
            return off;
        }

        void goDay() {
            for (int i = 0; i < size; i++) {
                Saint s = saints[i];
                if (isNovice(s.peg) && !s.isThread()) {
                    scrub(s, s.peg);
                } else {
                    s.wet = false;
                }
            }
            for (int i = 0; i < NOVICES; i++) {
                on[i] |= grows[i];
            }
            day++;
        }

        void goDays(int n) {
            for (int i = 0; i < n; i++) {
                goDay();
            }
        }

        /** A row of the PLAN happens. */
        void follow(int what, int n) {
            if (what == PLAN_DAY) {
                goDay();
                return;
            }
            int saint = what == PLAN_USE ? n / 10 : n;
            if (!has(saint)) return;
            Saint s = saints[saint];
            if (what == PLAN_NEW) {
                s.wear = 0;
            } else if (what == PLAN_UNPEG) {
                s.peg = NO_ONE;
            } else if (isNovice(n % 10) && !s.isThread()) {
                scrub(s, n % 10);
            }
        }

        int onAll() {
            int all = 0;
            for (int i = 0; i < NOVICES; i++) {
                all += Integer.bitCount(on[i]);
            }
            return all;
        }

        int wearOfAll() {
            int all = 0;
            for (int i = 0; i < size; i++) {
                all += saints[i].wear;
            }
            return all;
        }

        int threads() {
            int set = 0;
            for (int i = 0; i < size; i++) {
                if (saints[i].isThread()) set |= 1 << i;
            }
            return set;
        }

        /** Whether all of SEEN that is of a SAINT is so, were it as the supposed one, of that GRIT. */
        boolean isAsSeen(int saint, Saint supposed, int grit) {
            for (int i = 0; i < seen.size; i++) {
                int novice = seen.cell(i, 1);
                if (seen.cell(i, 0) != saint || !isNovice(novice)) continue;
                if (supposed.takes(on[novice], grit) != seen.cell(i, 2)) return false;
            }
            return true;
        }
    }

    /** AN ORDER, as steps: tests put a bit on a stack of bits, and all others take bits from it. */
    private static final class Order {
        static final int NOT = '!', AND = '&', OR = '|', SCRUB = 'S', SOFT = 's';
        /** A test's argument: its < or = or >, times this, and its number. */
        static final int RELATION = 100;
        final int[] steps;
        final int[] arguments;
        int size = 0;
        int hard = HARD;

        Order(int room) {
            steps = new int[room];
            arguments = new int[room];
        }

        void begin() {
            size = 0;
            hard = HARD;
        }

        void put(int step, int argument) {
            if (size >= steps.length) return;
            steps[size] = step;
            arguments[size] = argument;
            size++;
        }

        int sum(Saint s, int day) {
            int sum = SUM;
            // the least bit is the top; ( within 4 others leaves at most a dozen bits below it
            int stack = 0;
            for (int i = 0; i < size; i++) {
                int argument = arguments[i];
                int top = stack & 1;
                switch (steps[i]) {
                    case NOT:
                        stack ^= 1;
                        break;
                    case AND:
                        stack = stack >> 1 & (-2 | top);
                        break;
                    case OR:
                        stack = stack >> 1 | top;
                        break;
                    case SCRUB:
                        sum += top * argument;
                        stack >>= 1;
                        break;
                    case SOFT:
                        sum -= top * argument;
                        stack >>= 1;
                        break;
                    default:
                        stack = stack << 1 | (holds(letter(steps[i], s, day), argument) ? 1 : 0);
                        break;
                }
            }
            return sum;
        }

        private static boolean holds(int value, int argument) {
            int number = argument % RELATION;
            switch (argument / RELATION) {
                case '<': return value < number;
                case '=': return value == number;
                default: return value > number;
            }
        }

        private static int letter(int letter, Saint s, int day) {
            switch (letter) {
                case 'p': return s.number;
                case 'k': return s.kind;
                case 'v': return s.v;
                case 'w': return s.wear / 10;
                case 't': return s.wet ? 1 : 0;
                default: return day % 10;
            }
        }
    }

    /** Reads THE TEXT, byte by byte: where reading ends, the first byte stands that can't be. */
    private static final class Reader {
        private static final int END = -1;
        final int[] text = new int[TEXT];
        int length = 0;
        int at = 0;
        private int number = 0;
        private Order into = new Order(0);

        /** Whether THE TEXT is AN ORDER, which is put into one; if not, the FAULT is at. */
        boolean reads(Order order) {
            at = 0;
            into = order;
            into.begin();
            for (int i = 0; i < CLAUSES; i++) {
                if (!clause()) return false;
                if (at == length) return true;
                if (i + 1 == CLAUSES || !eat(';')) return false;
            }
            return false;
        }

        private boolean clause() {
            if (sign(0) != 's') {
                if (!word("wear") || !eat(' ') || !numeral()) return false;
                into.hard = number;
                return true;
            }
            boolean scrubs = sign(1) == 'c';
            if (!word(scrubs ? "scrub" : "soft") || !eat(' ') || !numeral()) return false;
            int n = number;
            if (!eat(' ') || !either(0)) return false;
            into.put(scrubs ? Order.SCRUB : Order.SOFT, n);
            return true;
        }

        /** E, at once with its T: fewer calls stand open by that. */
        private boolean either(int depth) {
            for (int terms = 0; terms < TEXT; terms++) {
                for (int factors = 0; factors == 0 || factors < TEXT && eat('&'); factors++) {
                    if (!factor(depth)) return false;
                    if (factors > 0) into.put(Order.AND, 0);
                }
                if (terms > 0) into.put(Order.OR, 0);
                if (!eat('|')) return true;
            }
            return false;
        }

        private boolean factor(int depth) {
            if (depth < NESTED && eat('(')) {
                return either(depth + 1) && eat(')');
            }
            if (depth < NESTED && eat('!')) {
                if (!factor(depth + 1)) return false;
                into.put(Order.NOT, 0);
                return true;
            }
            return test();
        }

        private boolean test() {
            int letter = sign(0);
            if (!isLetter(letter)) return false;
            at++;
            int relation = sign(0);
            if (relation != '<' && relation != '=' && relation != '>') return false;
            at++;
            if (!numeral()) return false;
            into.put(letter, relation * Order.RELATION + number);
            return true;
        }

        private static boolean isLetter(int sign) {
            return sign == 'p' || sign == 'k' || sign == 'v' || sign == 'w' || sign == 't' || sign == 'd';
        }

        private boolean numeral() {
            if (!isDigit(sign(0))) return false;
            number = sign(0) - '0';
            at++;
            if (isDigit(sign(0))) {
                number = number * 10 + sign(0) - '0';
                at++;
            }
            return true;
        }

        private static boolean isDigit(int sign) {
            return sign >= '0' && sign <= '9';
        }

        private boolean word(String word) {
            for (int i = 0; i < word.length(); i++) {
                if (!eat(word.charAt(i))) return false;
            }
            return true;
        }

        private boolean eat(int sign) {
            if (sign(0) != sign) return false;
            at++;
            return true;
        }

        private int sign(int further) {
            int place = at + further;
            return place >= 0 && place < length && place < TEXT ? text[place] : END;
        }
    }

    /** SHARED: tries all ways, the first as a row of numbers first. */
    private static final class Sharing {
        private static final int NO_NOVICE = 9, NOT_GIVEN = -1;
        private final int[] takes = new int[SAINTS * NOVICES];
        private final int[] row = new int[SAINTS];
        private final int[] best = new int[SAINTS];
        private int size = 0;
        int most = 0;

        void share(House house, int without) {
            size = house.size;
            for (int s = 0; s < size; s++) {
                Saint saint = house.saints[s];
                int grit = saint.grit(house.held, house.day);
                boolean given = s != without && !saint.isThread();
                for (int n = 0; n < NOVICES; n++) {
                    takes[s * NOVICES + n] = given ? Integer.bitCount(saint.takes(house.on[n], grit)) : NOT_GIVEN;
                }
            }
            most = -1;
            seek(this, 0, 0, 0);
        }

        private static void seek(Sharing of, int s, int given, int sum) {
            if (s >= of.size || s >= SAINTS) {
                if (sum <= of.most) return;
                of.most = sum;
                System.arraycopy(of.row, 0, of.best, 0, SAINTS);
                return;
            }
            for (int n = 0; n < NOVICES; n++) {
                int more = of.takes[s * NOVICES + n];
                if (more == NOT_GIVEN || (given >> n & 1) != 0) continue;
                of.row[s] = n;
                seek(of, s + 1, given | 1 << n, sum + more);
            }
            of.row[s] = NO_NOVICE;
            seek(of, s + 1, given, sum);
        }

        int givenTo(int saint) {
            if (saint < 0 || saint >= size || best[saint] == NO_NOVICE) return NOT_THERE;
            return best[saint];
        }

        int dearest(House house) {
            int dear = NOT_THERE, least = 0;
            for (int s = 0; s < house.size; s++) {
                if (house.saints[s].isThread()) continue;
                share(house, s);
                if (dear != NOT_THERE && most >= least) continue;
                dear = s;
                least = most;
            }
            return dear;
        }

        int leastWithout(House house) {
            int dear = dearest(house);
            if (dear == NOT_THERE) return NOT_THERE;
            share(house, dear);
            return most;
        }
    }

    /** SCRUBBED: tries all rows, the first as a row of numbers first. */
    private static final class Scrubbing {
        private final int[] grits = new int[SAINTS];
        private final int[] row = new int[SCRUBBERS];
        final int[] best = new int[SCRUBBERS];
        private int length = 0;
        int least = 0;

        void choose(House house, int novice, int n) {
            for (int s = 0; s < house.size; s++) {
                grits[s] = house.saints[s].grit(house.held, house.day);
            }
            length = Math.min(n, SCRUBBERS);
            least = DOCTRINES + 1;
            seek(this, house, 0, 0, house.on[novice]);
        }

        private static void seek(Scrubbing of, House house, int k, int used, int on) {
            if (k >= of.length || k >= SCRUBBERS) {
                if (Integer.bitCount(on) >= of.least) return;
                of.least = Integer.bitCount(on);
                System.arraycopy(of.row, 0, of.best, 0, SCRUBBERS);
                return;
            }
            for (int s = 0; s < house.size; s++) {
                if ((used >> s & 1) != 0) continue;
                of.row[k] = s;
                seek(of, house, k + 1, used | 1 << s, on & ~house.saints[s].takes(on, of.grits[s]));
            }
        }
    }

    /** ACTS: bodies by their numbers, and THE TRACE of those that ran. */
    private static final class Acts {
        static final int HANGS = 0, HUMS = 1, TELLS = 2, TRACE = 20;
        private static final int EACH = 3, DEEP = 40;
        /** The body of each KIND for each ACT; 0: it has none. */
        private static final int[] BODIES = {
            10, 11, 12,
            0, 20, 0,
            30, 0, 0,
            0, 0, 40,
            50, 51, 0,
            0, 0, 60,
            71, 70, 0,
        };
        final int[] bodies = new int[TRACE];
        int ran = 0;
        private Saint saint = new Saint(0);

        /** THE TRACE goes on: who asks for an ACT empties it, as it is empty by a refused one, too. */
        int run(Saint of, int act, int x) {
            saint = of;
            return call(act, of.kind, x, 0);
        }

        /** The body of a KIND, or of the next above it that has one. */
        private int call(int act, int kind, int x, int depth) {
            int at = kind;
            for (int i = 0; i < KINDS && isKind(at) && BODIES[at * EACH + act] == 0; i++) {
                at = ABOVE[at];
            }
            if (!isKind(at) || depth > DEEP) return 0;
            int number = BODIES[at * EACH + act];
            if (ran < TRACE) bodies[ran] = number;
            ran++;
            return body(number, ABOVE[at], x, depth + 1);
        }

        private int body(int number, int above, int x, int depth) {
            int own = saint.kind;
            switch (number) {
                case 10: return x + saint.number;
                case 11: return call(HANGS, own, x, depth) - saint.v;
                case 12: return call(HUMS, own, x, depth) * 2;
                case 20: return call(HUMS, above, x, depth) ^ 6;
                case 30: return call(HANGS, above, x * 3, depth);
                case 40: return call(TELLS, above, x, depth) + call(HUMS, own, 1, depth);
                case 50: return -call(HANGS, above, x, depth);
                case 51: return call(HUMS, above, x + 1, depth);
                case 60: return call(TELLS, above, x - saint.number, depth);
                case 70: return call(HUMS, above, x, depth) + call(HANGS, above, 2, depth);
                case 71: return call(HANGS, above, x, depth) ^ saint.v;
                default: return 0;
            }
        }
    }

    /** A TAPE: items of every sort are kept as longs, cut to their sort when they are put. */
    private static final class Tape {
        final long[] items = new long[ITEMS];
        int sort = EMPTY;
        int length = 0;

        void become(int ofSort, int n) {
            sort = ofSort;
            length = Math.max(0, Math.min(n, ITEMS));
            for (int i = 0; i < length; i++) {
                items[i] = 0;
            }
        }

        long cut(long v) {
            switch (sort) {
                case BYTES: return (byte) v;
                case SHORTS: return (short) v;
                case INTS: return (int) v;
                case BOOLEANS: return v != 0 ? 1 : 0;
                default: return v;
            }
        }
    }
}
