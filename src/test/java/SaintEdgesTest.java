/** What the Terms (but for AN ORDER) and promises 1 to 8 say of edges: each sentence by a test of its own. */
public final class SaintEdgesTest {
    private static final Check c = new Check();
    private static final int MIN = Integer.MIN_VALUE, MAX = Integer.MAX_VALUE;
    private static final int SAINT = 0, FOUNDER = 1, ABBOT = 2, HERETIC = 3, PITH = 4, RATTLE = 5, TOLD = 6;
    private static final int ALL = 4095;

    public static void main(String[] args) {
        terms();
        grits();
        takes();
        uses();
        aDay();
        newObject();
        saint();
        of();
        set();
        peg();
        novice();
        use();
        row();
        c.end();
    }

    private static LoofahSaints one(int kind, int v, int holes, int... on) {
        return Check.with(new int[][] {{kind, v, holes}}, on);
    }

    private static LoofahSaints ordered(LoofahSaints x, String order) {
        c.due(order, Check.order(x, order), 0);
        return x;
    }

    private static void terms() {
        doctrines();
        saints();
        kinds();
        numbers();
        wear();
        wet();
        pegs();
        novices();
        c.says("DAY: 0 at first");
        c.due("day", new LoofahSaints().told(0), 0);
    }

    private static void doctrines() {
        c.says("DOCTRINES 0 .. 11, sets of them as bits (0 .. 4095)");
        LoofahSaints x = one(FOUNDER, 9, ALL, ALL);
        c.due("the first comes off", x.odds(0, 0, 0), 1);
        c.due("the last comes off", x.odds(11, 0, 0), 1);
        c.due("below the first", x.odds(-1, 0, 0), LoofahSaints.NO);
        c.due("beyond the last", x.odds(12, 0, 0), LoofahSaints.NO);
        c.due("all twelve come off", x.use(0, 0), 4095);
        c.due("the least set", x.novice(0, 0, 0), 0);
        c.due("the largest set", x.novice(0, 0, 4095), 0);
        c.due("below", x.novice(0, 0, -1), -2);
        c.due("beyond", x.novice(0, 0, 4096), -2);
    }

    private static void saints() {
        c.says("SAINTS 0 .. 5, as they come, are of KINDS");
        LoofahSaints x = new LoofahSaints();
        for (int i = 0; i < 6; i++) {
            c.due("there is none yet", x.of(i, 0), -10001);
            c.due("its number", x.saint(6 - i, 0, 0), i);
            c.due("its kind", x.of(i, 0), 6 - i);
        }
        c.due("none ahead of 0", x.of(-1, 0), -10001);
        c.due("none behind 5", x.of(6, 0), -10001);
    }

    private static void kinds() {
        c.says("0 SAINT; 1 FOUNDER, 2 ABBOT, 3 HERETIC under SAINT; 4 PITH under FOUNDER; 5 RATTLE under ABBOT; "
            + "6 TOLD under HERETIC");
        int[] above = {-1, 0, 0, 0, 1, 2, 3};
        for (int kind = 0; kind < 7; kind++) {
            LoofahSaints x = one(kind, 0, 0);
            for (int k = 0; k < 7; k++) {
                boolean is = k == kind || k == above[kind] || k == SAINT;
                c.due(kind + " for " + k, x.taken(0, k), is ? kind : -12);
            }
        }
    }

    private static void numbers() {
        c.says("with a number v (0 .. 9), HOLES (DOCTRINES)");
        LoofahSaints x = new LoofahSaints();
        c.due("least", x.saint(SAINT, 0, 0), 0);
        c.due("largest", x.saint(SAINT, 9, 4095), 1);
        c.due("v below", x.saint(SAINT, -1, 0), -2);
        c.due("v beyond", x.saint(SAINT, 10, 0), -2);
        c.due("holes below", x.saint(SAINT, 0, -1), -2);
        c.due("holes beyond", x.saint(SAINT, 0, 4096), -2);
        c.due("least v", x.of(0, 1), 0);
        c.due("largest v", x.of(1, 1), 9);
        c.due("least holes", x.of(0, 2), 0);
        c.due("largest holes", x.of(1, 2), 4095);
    }

    private static void wear() {
        c.says("WEAR (0 .. 99; 0 at first; a THREAD is one with 99)");
        LoofahSaints x = one(SAINT, 0, ALL, ALL);
        c.due("at first", x.of(0, 3), 0);
        c.due("99", x.set(0, 1, 99), 0);
        c.due("99 is one", x.told(3), 1);
        c.due("0 again", x.set(0, 1, 0), 99);
        c.due("98", x.set(0, 1, 98), 0);
        c.due("98 is none", x.told(3), 0);
        c.due("below", x.set(0, 1, -1), -2);
        c.due("beyond", x.set(0, 1, 100), -2);
        c.due("98 is used", x.use(0, 0), 7);
        c.due("beyond 99 by use is 99", x.of(0, 3), 99);
        c.due("one by use", x.told(3), 1);
    }

    private static void wet() {
        c.says("WET, or not (not at first)");
        LoofahSaints x = one(PITH, 9, ALL, ALL);
        c.due("not wet", x.of(0, 4), 0);
        c.due("a pith that is not wet", x.of(0, 6), 0);
        x.use(0, 0);
        c.due("wet", x.of(0, 4), 1);
    }

    private static void pegs() {
        c.says("a PEG (a NOVICE on whom it is used day by day, or none; none at first)");
        LoofahSaints x = one(SAINT, 0, ALL, ALL, ALL);
        c.due("none at first", x.of(0, 5), -5);
        x.pass(1);
        c.due("nobody is scrubbed by none", x.told(2), 24);
        x.peg(0, 1);
        x.pass(2);
        c.due("the other has all", x.told(10), ALL);
        c.due("two days", x.told(11), 0xFC0);
    }

    private static void novices() {
        c.says("NOVICES 0 .. 3, each with what is ON it (DOCTRINES; none at first) and what GROWS on it (DOCTRINES; "
            + "none at first)");
        LoofahSaints x = new LoofahSaints();
        for (int n = 0; n < 4; n++) {
            c.due("on at first", x.novice(n, 0, 1 << n), 0);
            c.due("grows at first", x.novice(n, 1, 16 << n), 0);
        }
        for (int n = 0; n < 4; n++) {
            c.due("on", x.told(10 + n), 1 << n);
            c.due("grows", x.told(20 + n), 16 << n);
        }
        c.due("none ahead of 0", x.novice(-1, 0, 0), -1);
        c.due("none behind 3", x.novice(4, 0, 0), -1);
        c.due("told behind 3", x.told(14), -1);
        c.due("told ahead of 0", x.told(19), -1);
    }

    private static void grits() {
        gritOfSaint();
        gritOfFounder();
        gritOfAbbot();
        gritOfHeretic();
        gritOfPith();
        gritOfRattle();
        gritOfTold();
    }

    private static void gritOfSaint() {
        c.says("GRIT of a SAINT (may be below 0): SAINT: SUM");
        c.due("no order", one(SAINT, 9, 0).of(0, 6), 3);
        c.due("0", ordered(one(SAINT, 9, 0), "soft 3 p=0").of(0, 6), 0);
        c.due("-1", ordered(one(SAINT, 9, 0), "soft 4 p=0").of(0, 6), -1);
        String eight = "soft 99 p=0" + ";soft 99 p=0".repeat(7);
        c.due("the least", ordered(one(SAINT, 9, 0), eight).of(0, 6), 3 - 8 * 99);
        String seven = "scrub 99 p=0" + ";scrub 99 p=0".repeat(6);
        c.due("the largest", ordered(one(SAINT, 9, 0), seven).of(0, 6), 3 + 7 * 99);
    }

    private static void gritOfFounder() {
        c.says("FOUNDER: SUM and v");
        c.due("0 more", one(FOUNDER, 0, 0).of(0, 6), 3);
        c.due("9 more", one(FOUNDER, 9, 0).of(0, 6), 12);
        c.due("to 0", ordered(one(FOUNDER, 9, 0), "soft 12 p=0").of(0, 6), 0);
        c.due("below 0", ordered(one(FOUNDER, 9, 0), "soft 13 p=0").of(0, 6), -1);
    }

    private static void gritOfAbbot() {
        c.says("ABBOT: the half (cut toward 0) of SUM");
        int[] softs = {0, 1, 2, 3, 4, 5, 6, 7, 8};
        int[] halves = {1, 1, 0, 0, 0, -1, -1, -2, -2};
        for (int i = 0; i < softs.length; i++) {
            int sum = 3 - softs[i];
            c.due("half of " + sum, ordered(one(ABBOT, 9, 0), "soft " + softs[i] + " p=0").of(0, 6), halves[i]);
        }
    }

    private static void gritOfHeretic() {
        c.says("HERETIC: SUM");
        c.due("without v", one(HERETIC, 9, 0).of(0, 6), 3);
        c.due("below 0", ordered(one(HERETIC, 9, 0), "soft 4 p=0").of(0, 6), -1);
    }

    private static void gritOfPith() {
        c.says("PITH: as FOUNDER; 0, if it is not WET");
        LoofahSaints x = one(PITH, 9, 0);
        c.due("dry", x.of(0, 6), 0);
        x.use(0, 0);
        c.due("wet", x.of(0, 6), 12);
        LoofahSaints y = ordered(one(PITH, 9, 0), "soft 99 p=0");
        c.due("dry, 0 where a FOUNDER is below", y.of(0, 6), 0);
        y.use(0, 0);
        c.due("wet, below 0", y.of(0, 6), -87);
    }

    private static void gritOfRattle() {
        c.says("RATTLE: as ABBOT, and 1, if DAY is odd");
        LoofahSaints x = one(RATTLE, 9, 0);
        c.due("day 0", x.of(0, 6), 1);
        x.pass(1);
        c.due("day 1", x.of(0, 6), 2);
        x.pass(1);
        c.due("day 2", x.of(0, 6), 1);
        ordered(x, "soft 6 p=0");
        c.due("half of -3 on an even day", x.of(0, 6), -1);
        x.pass(1);
        c.due("half of -3 on an odd day", x.of(0, 6), 0);
        int[] softs = {0, 1, 2, 3, 4, 5, 6, 7, 8};
        int[] halves = {1, 1, 0, 0, 0, -1, -1, -2, -2};
        for (int i = 0; i < softs.length; i++) {
            LoofahSaints y = ordered(one(RATTLE, 9, 0), "soft " + softs[i] + " p=0");
            int sum = 3 - softs[i];
            c.due("half of " + sum, y.of(0, 6), halves[i]);
            y.pass(1);
            c.due("half of " + sum + ", and 1", y.of(0, 6), halves[i] + 1);
        }
    }

    private static void gritOfTold() {
        c.says("TOLD: as HERETIC, and its ROW (four numbers 0 .. 9; 0 at first) at DAY modulo 4 more");
        LoofahSaints y = one(TOLD, 9, 0);
        for (int day = 0; day < 4; day++) {
            c.due("as heretic on day " + day, y.of(0, 6), 3);
            y.pass(1);
        }
        LoofahSaints x = one(TOLD, 9, 0);
        int[] row = {1, 9, 0, 5};
        for (int part = 0; part < 4; part++) {
            c.due("0 at first", x.row(0, part, row[part]), 0);
        }
        for (int day = 0; day < 9; day++) {
            c.due("day " + day, x.of(0, 6), 3 + row[day % 4]);
            x.pass(1);
        }
    }

    private static void takes() {
        takesByHoles();
        takesTheLeast();
        takesNoMoreThanThereIs();
    }

    private static void takesByHoles() {
        c.says("TAKES of a SAINT and a NOVICE: of what is ON it and among its HOLES (HERETIC, TOLD: of what is ON it "
            + "and not among its HOLES)");
        for (int kind = 0; kind < 7; kind++) {
            boolean not = kind == HERETIC || kind == TOLD;
            LoofahSaints x = one(kind, 0, 0x0F0, 0x3C0, 0x030, 0xF0F, 0);
            ordered(x, "scrub 99 p=0;wear 0");
            x.use(0, 3);
            int[] due = not ? new int[] {0x300, 0, 0xF0F, 0} : new int[] {0x0C0, 0x030, 0, 0};
            for (int n = 0; n < 4; n++) {
                c.due("kind " + kind + " of " + n, x.of(0, 10 + n), due[n]);
            }
        }
        c.due("no holes", one(SAINT, 0, 0, ALL).of(0, 10), 0);
        c.due("all holes", one(HERETIC, 0, ALL, ALL).of(0, 10), 0);
        c.due("no holes of a heretic", one(HERETIC, 0, 0, ALL).of(0, 10), 7);
    }

    private static void takesTheLeast() {
        c.says("the least, as many as GRIT tells");
        int[] due = {0, 0x002, 0x00A, 0x02A, 0x0AA, 0x2AA, 0xAAA, 0xAAA};
        for (int grit = 0; grit < due.length; grit++) {
            LoofahSaints x = ordered(one(SAINT, 0, 0xAAA, ALL), "soft 3 p=0;scrub " + grit + " p=0");
            c.due("grit " + grit, x.of(0, 10), due[grit]);
        }
        c.due("by 12, the last, too", one(FOUNDER, 9, ALL, ALL).of(0, 10), ALL);
        c.due("by 11, not the last", one(FOUNDER, 8, ALL, ALL).of(0, 10), 0x7FF);
    }

    private static void takesNoMoreThanThereIs() {
        c.says("(all, if there are fewer; none, if GRIT is below 0 or the SAINT is a THREAD)");
        c.due("two of three", one(SAINT, 0, ALL, 0x801).of(0, 10), 0x801);
        c.due("none of three", one(SAINT, 0, ALL, 0).of(0, 10), 0);
        String large = "scrub 99 p=0" + ";scrub 99 p=0".repeat(6);
        c.due("all by 696", ordered(one(SAINT, 0, 0xFF0, ALL), large).of(0, 10), 0xFF0);
        c.due("grit -1", ordered(one(SAINT, 0, ALL, ALL), "soft 4 p=0").of(0, 10), 0);
        String small = "soft 99 p=0" + ";soft 99 p=0".repeat(7);
        c.due("grit -789", ordered(one(SAINT, 0, ALL, ALL), small).of(0, 10), 0);
        LoofahSaints x = one(SAINT, 0, ALL, ALL);
        x.set(0, 1, 99);
        c.due("a thread", x.of(0, 10), 0);
        c.due("its grit is not asked", x.of(0, 6), 3);
        LoofahSaints y = one(HERETIC, 0, 0, ALL);
        y.set(0, 1, 99);
        c.due("a thread of a heretic", y.of(0, 10), 0);
        x.set(0, 1, 98);
        c.due("no thread yet", x.of(0, 10), 7);
    }

    private static void uses() {
        useTakesOff();
        useWears();
        useWets();
    }

    private static void useTakesOff() {
        c.says("To USE a SAINT on a NOVICE: what it TAKES is ON that no more");
        LoofahSaints x = one(SAINT, 0, 0xFF0, ALL, ALL, ALL, ALL);
        c.due("use", x.use(0, 3), 0x070);
        c.due("on it no more", x.told(13), 0xF8F);
        for (int n = 0; n < 3; n++) {
            c.due("on another still", x.told(10 + n), ALL);
        }
    }

    /** WEAR behind one USE of a SAINT that has some and is WET or not. */
    private static int worn(int hard, int from, boolean wet) {
        LoofahSaints x = one(SAINT, 0, ALL, ALL);
        if (wet) x.use(0, 0);
        ordered(x, "wear " + hard);
        x.set(0, 1, from);
        x.use(0, 0);
        return x.of(0, 3);
    }

    private static void useWears() {
        c.says("WEAR is HARD more, the half (cut) of HARD, if it is WET (99 at most)");
        c.due("7", worn(7, 0, false), 7);
        c.due("half of 7", worn(7, 0, true), 3);
        c.due("half of 8", worn(8, 0, true), 4);
        c.due("1", worn(1, 0, false), 1);
        c.due("half of 1", worn(1, 0, true), 0);
        c.due("0", worn(0, 5, false), 5);
        c.due("half of 0", worn(0, 5, true), 5);
        c.due("99", worn(99, 0, false), 99);
        c.due("half of 99", worn(99, 0, true), 49);
        c.due("just 98", worn(6, 92, false), 98);
        c.due("just 99", worn(6, 93, false), 99);
        c.due("beyond 99", worn(6, 94, false), 99);
        c.due("far beyond 99", worn(99, 98, false), 99);
        c.due("just 98, wet", worn(6, 95, true), 98);
        c.due("just 99, wet", worn(6, 96, true), 99);
        c.due("beyond 99, wet", worn(6, 97, true), 99);
    }

    private static void useWets() {
        c.says("it is WET then");
        LoofahSaints x = ordered(one(SAINT, 0, 0, ALL), "wear 0");
        c.due("takes nothing", x.use(0, 0), 0);
        c.due("no wear", x.of(0, 3), 0);
        c.due("wet all the same", x.of(0, 4), 1);
        c.due("wear 99", Check.order(x, "wear 99"), 1);
        x.use(0, 0);
        x.use(0, 0);
        x.use(0, 0);
        c.due("a thread by that", x.told(3), 1);
        c.due("wet still", x.of(0, 4), 1);
    }

    private static void aDay() {
        byNumber();
        noThread();
        othersDry();
        grows();
        dayIsMore();
    }

    private static void byNumber() {
        c.says("A DAY goes: one behind the other by number each SAINT with a PEG");
        int[] broad = {SAINT, 0, ALL}, narrow = {SAINT, 0, 0x007};
        LoofahSaints x = Check.with(new int[][] {broad, narrow}, 0x00F);
        x.peg(1, 0);
        x.peg(0, 0);
        x.pass(1);
        c.due("the broad one ahead", x.told(10), 0x008);
        LoofahSaints y = Check.with(new int[][] {narrow, broad}, 0x00F);
        y.peg(1, 0);
        y.peg(0, 0);
        y.pass(1);
        c.due("the narrow one ahead", y.told(10), 0);
        c.due("both wear", y.of(0, 3) + y.of(1, 3), 12);
        int[][] six = {{0, 0, 1}, {0, 0, 2}, {0, 0, 4}, {0, 0, 8}, {0, 0, 16}, {0, 0, 32}};
        LoofahSaints z = Check.with(six, ALL);
        for (int s = 0; s < 6; s++) {
            z.peg(s, 0);
        }
        z.pass(1);
        c.due("all six", z.told(10), 0xFC0);
    }

    private static void noThread() {
        c.says("no THREAD, is USED on that");
        LoofahSaints x = one(SAINT, 0, ALL, ALL);
        x.peg(0, 0);
        x.set(0, 1, 99);
        x.pass(1);
        c.due("a thread", x.told(10), ALL);
        x.set(0, 1, 98);
        x.pass(1);
        c.due("98", x.told(10), 0xFF8);
        c.due("a thread by that", x.of(0, 3), 99);
        x.pass(1);
        c.due("no more", x.told(10), 0xFF8);
        c.due("the peg is there still", x.of(0, 5), 0);
    }

    private static void othersDry() {
        c.says("all others are not WET then");
        LoofahSaints x = Check.with(new int[][] {{0, 0, ALL}, {0, 0, ALL}, {0, 0, ALL}}, ALL);
        for (int s = 0; s < 3; s++) {
            x.use(s, 3);
        }
        x.peg(0, 0);
        x.peg(1, 0);
        x.set(1, 1, 99);
        x.pass(0);
        c.due("none dries by no day", x.of(2, 4), 1);
        x.pass(1);
        c.due("one that is used", x.of(0, 4), 1);
        c.due("a thread with a peg", x.of(1, 4), 0);
        c.due("one without a peg", x.of(2, 4), 0);
    }

    private static void grows() {
        c.says("then what GROWS on each NOVICE is ON it, too");
        LoofahSaints x = one(SAINT, 0, ALL, 0x001);
        x.peg(0, 0);
        x.novice(0, 1, 0x003);
        x.novice(3, 0, 0x0F0);
        x.novice(3, 1, 0x888);
        x.pass(1);
        c.due("it grows behind the use", x.told(10), 0x003);
        c.due("it grows beside what is there", x.told(13), 0x8F8);
        c.due("it grows on", x.told(23), 0x888);
        c.due("nothing grows on others", x.told(11) + x.told(12), 0);
    }

    private static void dayIsMore() {
        c.says("DAY is 1 more");
        LoofahSaints x = one(RATTLE, 0, ALL, ALL);
        x.peg(0, 0);
        c.due("day", x.pass(1), 1);
        c.due("used ahead of that, by an even day", x.told(10), 0xFFE);
        c.due("day", x.pass(1), 2);
        c.due("by an odd day", x.told(10), 0xFF8);
    }

    private static void newObject() {
        c.says("No SAINTS, no ORDER; four NOVICES with nothing ON them");
        LoofahSaints x = new LoofahSaints();
        c.due("saints", x.count(0), 0);
        c.due("saint 0", x.of(0, 0), -10001);
        c.due("orders", x.count(1), 0);
        c.due("its hard", x.told(1), 6);
        for (int n = 0; n < 4; n++) {
            c.due("on " + n, x.told(10 + n), 0);
        }
        c.due("on all", x.told(2), 0);
        c.due("no fifth", x.told(14), -1);
        LoofahSaints y = new LoofahSaints();
        x.saint(0, 0, 0);
        x.novice(0, 0, 1);
        Check.order(x, "wear 9");
        c.due("another has none of this", y.count(0) + y.count(1) + y.told(2), 0);
    }

    private static void saint() {
        c.says("A SAINT: its number. NONE: kind; BAD: v, holes; FULL: 6");
        LoofahSaints x = new LoofahSaints();
        for (int kind : new int[] {-1, 7, MIN, MAX}) {
            c.due("kind " + kind, x.saint(kind, 0, 0), -1);
        }
        for (int v : new int[] {-1, 10, MIN, MAX}) {
            c.due("v " + v, x.saint(0, v, 0), -2);
        }
        for (int holes : new int[] {-1, 4096, MIN, MAX}) {
            c.due("holes " + holes, x.saint(0, 0, holes), -2);
        }
        c.due("kind ahead of v", x.saint(7, 10, 0), -1);
        c.due("kind ahead of holes", x.saint(-1, 0, 4096), -1);
        c.due("none came", x.count(0), 0);
        c.due("the least of all", x.saint(0, 0, 0), 0);
        for (int i = 1; i < 6; i++) {
            c.due("the largest of all", x.saint(6, 9, 4095), i);
        }
        c.due("full", x.saint(0, 0, 0), -4);
        c.due("kind ahead of full", x.saint(7, 0, 0), -1);
        c.due("v ahead of full", x.saint(0, 10, 0), -2);
        c.due("holes ahead of full", x.saint(0, 0, 4096), -2);
        c.due("six", x.count(0), 6);
    }

    private static void of() {
        c.says("Of a SAINT what 0 KIND, 1 v, 2 HOLES (bits), 3 WEAR, 4 whether it is WET, 5 PEG (-5), 6 GRIT, 7 LASTS, "
            + "10 and n what it TAKES of NOVICE n (bits). -10001: NONE");
        LoofahSaints x = one(TOLD, 8, 0xF00, 0x0F1, 0x0F2, 0x0F4, 0x0F8);
        int[] due = {6, 8, 0xF00, 0, 0, -5, 3, 32, -10001, -10001, 0x031, 0x032, 0x034, 0x038, -10001};
        for (int what = 0; what < due.length; what++) {
            c.due("what " + what, x.of(0, what), due[what]);
        }
        for (int what : new int[] {-1, -10, 15, 20, MIN, MIN + 10, MAX}) {
            c.due("what " + what, x.of(0, what), -10001);
        }
        for (int saint : new int[] {-1, 1, 5, 6, MIN, MAX}) {
            c.due("saint " + saint, x.of(saint, 0), -10001);
            c.due("takes of saint " + saint, x.of(saint, 10), -10001);
        }
        x.peg(0, 3);
        x.use(0, 0);
        c.due("wear", x.of(0, 3), 6);
        c.due("wet", x.of(0, 4), 1);
        c.due("peg", x.of(0, 5), 3);
        c.due("lasts", x.of(0, 7), 31);
    }

    private static void set() {
        c.says("Of a SAINT 0 HOLES (0 .. 4095), 1 WEAR (0 .. 99) becomes n: what it was. NONE: saint, what; BAD");
        LoofahSaints x = one(SAINT, 0, 5);
        c.due("largest holes", x.set(0, 0, 4095), 5);
        c.due("least holes", x.set(0, 0, 0), 4095);
        c.due("largest wear", x.set(0, 1, 99), 0);
        c.due("least wear", x.set(0, 1, 0), 99);
        for (int n : new int[] {-1, 4096, MIN, MAX}) {
            c.due("holes " + n, x.set(0, 0, n), -2);
        }
        for (int n : new int[] {-1, 100, 4095, MIN, MAX}) {
            c.due("wear " + n, x.set(0, 1, n), -2);
        }
        for (int what : new int[] {-1, 2, MIN, MAX}) {
            c.due("what " + what, x.set(0, what, 0), -1);
            c.due("what ahead of bad", x.set(0, what, -1), -1);
        }
        for (int saint : new int[] {-1, 1, 6, MIN, MAX}) {
            c.due("saint " + saint, x.set(saint, 0, 0), -1);
            c.due("saint ahead of bad", x.set(saint, 0, -1), -1);
        }
        c.due("nothing came of it", x.of(0, 2) + x.of(0, 3), 0);
    }

    private static void peg() {
        c.says("A SAINT has a NOVICE as its PEG (novice -1: none): what it had (-5: none). NONE");
        LoofahSaints x = one(SAINT, 0, 5);
        c.due("had none", x.peg(0, -1), -5);
        c.due("had none", x.peg(0, 0), -5);
        c.due("had the first", x.peg(0, 3), 0);
        c.due("had the last", x.peg(0, -1), 3);
        c.due("had none", x.peg(0, 2), -5);
        for (int novice : new int[] {-2, 4, -5, MIN, MAX}) {
            c.due("novice " + novice, x.peg(0, novice), -1);
        }
        for (int saint : new int[] {-1, 1, 6, MIN, MAX}) {
            c.due("saint " + saint, x.peg(saint, 0), -1);
            c.due("none for saint " + saint, x.peg(saint, -1), -1);
        }
        c.due("nothing came of it", x.of(0, 5), 2);
    }

    private static void novice() {
        c.says("Of a NOVICE what 0 is ON it, 1 GROWS on it becomes DOCTRINES: what it was. NONE: novice, what; BAD");
        LoofahSaints x = new LoofahSaints();
        for (int what = 0; what < 2; what++) {
            c.due("largest", x.novice(3, what, 4095), 0);
            c.due("least", x.novice(3, what, 0), 4095);
            for (int n : new int[] {-1, 4096, MIN, MAX}) {
                c.due("doctrines " + n, x.novice(3, what, n), -2);
            }
            for (int novice : new int[] {-1, 4, MIN, MAX}) {
                c.due("novice " + novice, x.novice(novice, what, 1), -1);
                c.due("novice ahead of bad", x.novice(novice, what, -1), -1);
            }
        }
        for (int what : new int[] {-1, 2, MIN, MAX}) {
            c.due("what " + what, x.novice(3, what, 1), -1);
            c.due("what ahead of bad", x.novice(3, what, 4096), -1);
        }
        for (int n = 0; n < 4; n++) {
            c.due("nothing came of it", x.told(10 + n) + x.told(20 + n), 0);
        }
    }

    private static void use() {
        c.says("A SAINT is USED on a NOVICE: what came off (bits). NONE; STATE: it is a THREAD");
        LoofahSaints x = one(SAINT, 0, 0xF00, ALL, 0x0FF, 0x800, 0);
        c.due("three came off", x.use(0, 0), 0x700);
        c.due("the last one", x.use(0, 0), 0x800);
        c.due("nothing more", x.use(0, 0), 0);
        c.due("no hole", x.use(0, 1), 0);
        c.due("one", x.use(0, 2), 0x800);
        c.due("nothing on it", x.use(0, 3), 0);
        for (int novice : new int[] {-1, 4, MIN, MAX}) {
            c.due("novice " + novice, x.use(0, novice), -1);
        }
        for (int saint : new int[] {-1, 1, 6, MIN, MAX}) {
            c.due("saint " + saint, x.use(saint, 0), -1);
        }
        c.due("refused ones wear nothing", x.of(0, 3), 6 + 5 * 3);
        x.set(0, 1, 99);
        x.novice(0, 0, ALL);
        c.due("a thread", x.use(0, 0), -3);
        c.due("none ahead of state", x.use(0, 4), -1);
        c.due("nothing came off", x.told(10), ALL);
    }

    private static void row() {
        c.says("The ROW of a TOLD one becomes n (0 .. 9) for DAYS modulo 4 being part: what it was. NONE: saint, part; "
            + "BAD; STATE: another KIND");
        LoofahSaints x = Check.with(new int[][] {{TOLD, 0, 0}, {SAINT, 0, 0}});
        for (int part = 0; part < 4; part++) {
            c.due("largest", x.row(0, part, 9), 0);
            c.due("least", x.row(0, part, 0), 9);
            c.due("part", x.row(0, part, 5 + part), 0);
        }
        for (int n : new int[] {-1, 10, MIN, MAX}) {
            c.due("n " + n, x.row(0, 0, n), -2);
            c.due("n ahead of kind", x.row(1, 0, n), -2);
        }
        for (int part : new int[] {-1, 4, MIN, MAX}) {
            c.due("part " + part, x.row(0, part, 0), -1);
            c.due("part ahead of n", x.row(0, part, 10), -1);
            c.due("part ahead of kind", x.row(1, part, 0), -1);
        }
        for (int saint : new int[] {-1, 2, 6, MIN, MAX}) {
            c.due("saint " + saint, x.row(saint, 0, 0), -1);
            c.due("saint ahead of n", x.row(saint, 0, -1), -1);
        }
        for (int kind = 0; kind < 6; kind++) {
            c.due("kind " + kind, one(kind, 0, 0).row(0, 0, 5), -3);
        }
        for (int part = 0; part < 4; part++) {
            c.due("nothing came of it", x.of(0, 6), 3 + 5 + part);
            x.pass(1);
        }
    }
}
