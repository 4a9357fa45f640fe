/** Promises 1 to 8, and GRIT, TAKES, LASTS of the Terms. */
public final class SaintsTest {
    private static final Check c = new Check();
    private static final int MIN = Integer.MIN_VALUE, MAX = Integer.MAX_VALUE;

    public static void main(String[] args) {
        newObject();
        saint();
        of();
        set();
        peg();
        novice();
        use();
        row();
        gritByKind();
        gritByDay();
        takesLeast();
        lasts();
        c.end();
    }

    private static void newObject() {
        LoofahSaints x = new LoofahSaints();
        for (int i = 0; i <= 6; i++) {
            c.due("new count " + i, x.count(i), 0);
        }
        for (int n = 0; n < 4; n++) {
            c.due("new on", x.told(10 + n), 0);
            c.due("new grows", x.told(20 + n), 0);
        }
        c.due("new day", x.told(0), 0);
        c.due("new hard", x.told(1), 6);
        c.due("new of", x.of(0, 0), -10001);
        c.due("new undo", x.undo(), -3);
    }

    private static void saint() {
        LoofahSaints x = new LoofahSaints();
        c.due("kind below", x.saint(-1, 0, 0), -1);
        c.due("kind above", x.saint(7, 0, 0), -1);
        c.due("kind ahead of v", x.saint(MAX, -1, -1), -1);
        c.due("v below", x.saint(0, -1, 0), -2);
        c.due("v above", x.saint(0, 10, 0), -2);
        c.due("holes below", x.saint(0, 0, -1), -2);
        c.due("holes above", x.saint(0, 0, 4096), -2);
        c.due("refused are none", x.count(0), 0);
        for (int i = 0; i < 6; i++) {
            c.due("saint " + i, x.saint(i + 1, 9 - i, 4095 - i), i);
        }
        c.due("full", x.saint(0, 0, 0), -4);
        c.due("none ahead of full", x.saint(7, 0, 0), -1);
        c.due("bad ahead of full", x.saint(0, 0, MIN), -2);
        for (int i = 0; i < 6; i++) {
            c.due("kind of " + i, x.of(i, 0), i + 1);
            c.due("v of " + i, x.of(i, 1), 9 - i);
            c.due("holes of " + i, x.of(i, 2), 4095 - i);
            c.due("wear of " + i, x.of(i, 3), 0);
            c.due("wet of " + i, x.of(i, 4), 0);
            c.due("peg of " + i, x.of(i, 5), -5);
        }
    }

    private static void of() {
        LoofahSaints x = Check.with(new int[][] {{1, 2, 0xF0F}}, 0xFFF, 0x00F, 0xFF0, 0);
        c.due("of grit", x.of(0, 6), 5);
        c.due("of lasts", x.of(0, 7), 32);
        c.due("of takes 0", x.of(0, 10), 0x10F);
        c.due("of takes 1", x.of(0, 11), 0x00F);
        c.due("of takes 2", x.of(0, 12), 0xF00);
        c.due("of takes 3", x.of(0, 13), 0);
        int[] wrong = {-1, 8, 9, 14, MIN, MAX, MIN + 10};
        for (int what : wrong) {
            c.due("of what " + what, x.of(0, what), -10001);
        }
        c.due("of saint 1", x.of(1, 0), -10001);
        c.due("of saint -1", x.of(-1, 10), -10001);
        x.peg(0, 0);
        x.pass(1);
        c.due("of wear", x.of(0, 3), 6);
        c.due("of wet", x.of(0, 4), 1);
        c.due("of peg", x.of(0, 5), 0);
        Check.order(x, "soft 99 p=0");
        c.due("grit below 0", x.of(0, 6), 3 - 99 + 2);
        c.due("takes of it", x.of(0, 12), 0);
    }

    private static void set() {
        LoofahSaints x = Check.with(new int[][] {{0, 0, 5}}, 0xFFF);
        c.due("set holes", x.set(0, 0, 4095), 5);
        c.due("set holes again", x.set(0, 0, 0), 4095);
        c.due("holes 4096", x.set(0, 0, 4096), -2);
        c.due("holes -1", x.set(0, 0, -1), -2);
        c.due("set wear", x.set(0, 1, 99), 0);
        c.due("wear 100", x.set(0, 1, 100), -2);
        c.due("wear -1", x.set(0, 1, -1), -2);
        c.due("wear stays", x.of(0, 3), 99);
        c.due("what 2", x.set(0, 2, 0), -1);
        c.due("what -1", x.set(0, -1, 9999), -1);
        c.due("saint 1", x.set(1, 0, 9999), -1);
        c.due("a thread has holes", x.set(0, 0, 4095), 0);
        c.due("a thread takes none", x.of(0, 10), 0);
        c.due("98", x.set(0, 1, 98), 99);
        c.due("98 takes", x.of(0, 10), 7);
        c.due("holes are holes", x.of(0, 2), 4095);
    }

    private static void peg() {
        LoofahSaints x = Check.with(new int[][] {{0, 0, 5}, {1, 1, 1}});
        c.due("peg", x.peg(0, 3), -5);
        c.due("peg again", x.peg(0, 0), 3);
        c.due("peg none", x.peg(0, -1), 0);
        c.due("peg none again", x.peg(0, -1), -5);
        c.due("novice 4", x.peg(0, 4), -1);
        c.due("novice -2", x.peg(0, -2), -1);
        c.due("saint 2", x.peg(2, 0), -1);
        c.due("saint -1", x.peg(-1, 0), -1);
        c.due("the other has none", x.of(1, 5), -5);
        c.due("one for two", x.peg(1, 2), -5);
        c.due("one for two", x.peg(0, 2), -5);
        c.due("peg of 1", x.of(1, 5), 2);
    }

    private static void novice() {
        LoofahSaints x = new LoofahSaints();
        c.due("on", x.novice(2, 0, 4095), 0);
        c.due("on again", x.novice(2, 0, 1), 4095);
        c.due("grows", x.novice(2, 1, 6), 0);
        c.due("grows again", x.novice(2, 1, 7), 6);
        c.due("told on", x.told(12), 1);
        c.due("told grows", x.told(22), 7);
        c.due("others", x.told(11) + x.told(13) + x.told(21) + x.told(23), 0);
        c.due("novice -1", x.novice(-1, 0, 9999), -1);
        c.due("novice 4", x.novice(4, 0, 0), -1);
        c.due("what 2", x.novice(0, 2, 9999), -1);
        c.due("what -1", x.novice(0, -1, 0), -1);
        c.due("doctrines -1", x.novice(0, 1, -1), -2);
        c.due("doctrines 4096", x.novice(0, 0, 4096), -2);
        c.due("nothing came of it", x.told(2), 1);
    }

    private static void use() {
        LoofahSaints x = Check.with(new int[][] {{0, 0, 0xFF0}, {0, 0, 4095}}, 0xFFF, 0xF00);
        c.due("use", x.use(0, 0), 0x070);
        c.due("on", x.told(10), 0xF8F);
        c.due("wear dry", x.of(0, 3), 6);
        c.due("wet", x.of(0, 4), 1);
        c.due("other is dry", x.of(1, 4), 0);
        c.due("use wet", x.use(0, 0), 0x380);
        c.due("wear wet", x.of(0, 3), 9);
        c.due("use 1", x.use(0, 1), 0x700);
        c.due("use none", x.use(0, 2), 0);
        c.due("wear by none too", x.of(0, 3), 15);
        c.due("day", x.told(0), 0);
        x.set(0, 1, 98);
        c.due("98", x.use(0, 1), 0x800);
        c.due("99 at most", x.of(0, 3), 99);
        c.due("thread", x.use(0, 1), -3);
        c.due("thread of wrong novice", x.use(0, 4), -1);
        c.due("novice -1", x.use(1, -1), -1);
        c.due("saint 2", x.use(2, 0), -1);
        c.due("saint min", x.use(MIN, 0), -1);
        LoofahSaints y = Check.with(new int[][] {{0, 0, 1}});
        Check.order(y, "wear 7");
        y.use(0, 0);
        c.due("all of 7", y.of(0, 3), 7);
        y.use(0, 0);
        c.due("half of 7", y.of(0, 3), 10);
    }

    private static void row() {
        LoofahSaints x = Check.with(new int[][] {{6, 0, 0}, {3, 0, 0}, {6, 0, 0}}, 0xFFF);
        c.due("row", x.row(0, 3, 9), 0);
        c.due("row again", x.row(0, 3, 4), 9);
        c.due("row of other part", x.row(0, 0, 1), 0);
        c.due("row of other saint", x.row(2, 3, 1), 0);
        c.due("part 4", x.row(0, 4, 99), -1);
        c.due("part -1", x.row(0, -1, 0), -1);
        c.due("saint 3", x.row(3, 0, 0), -1);
        c.due("n 10", x.row(0, 0, 10), -2);
        c.due("n -1", x.row(1, 0, -1), -2);
        c.due("another kind", x.row(1, 0, 0), -3);
        c.due("kind, none first", x.row(1, 4, 0), -1);
        c.due("day 0", x.of(0, 6), 4);
        x.pass(1);
        c.due("day 1", x.of(0, 6), 3);
        x.pass(2);
        c.due("day 3", x.of(0, 6), 7);
        x.pass(4);
        c.due("day 7", x.of(0, 6), 7);
        x.pass(1);
        c.due("day 8", x.of(0, 6), 4);
    }

    private static void gritByKind() {
        int[][] all = {{1, 9, 4095}, {2, 9, 4095}, {3, 9, 0}, {4, 9, 4095}, {5, 9, 4095}, {6, 9, 0}};
        LoofahSaints x = Check.with(all, 0xFFF);
        int[] dry = {12, 1, 3, 0, 1, 3};
        for (int s = 0; s < 6; s++) {
            c.due("dry grit " + s, x.of(s, 6), dry[s]);
        }
        x.use(3, 3);
        c.due("wet pith", x.of(3, 6), 12);
        x.pass(1);
        c.due("dry pith", x.of(3, 6), 0);
        c.due("told on day 1", x.of(5, 6), 3);
        c.due("abbot on day 1", x.of(1, 6), 1);
        c.due("rattle on day 1", x.of(4, 6), 2);
        Check.order(x, "soft 10 d<9");
        int[] below = {2, -3, -7, 0, -2, -7};
        for (int s = 0; s < 6; s++) {
            c.due("grit below 0 of " + s, x.of(s, 6), below[s]);
        }
        Check.order(x, "soft 2 p>0;soft 3 p<1;scrub 1 d=1");
        c.due("sum 1", x.of(0, 6), 10);
        c.due("sum 2, cut", x.of(1, 6), 1);
        Check.order(x, "soft 8 p=1;soft 4 p=4");
        c.due("half of -5", x.of(1, 6), -2);
        c.due("half of -1 and 1", x.of(4, 6), 1);
    }

    private static void gritByDay() {
        LoofahSaints x = Check.with(new int[][] {{5, 0, 0}});
        for (int day = 0; day < 8; day++) {
            c.due("rattle on day " + day, x.of(0, 6), 1 + day % 2);
            x.pass(1);
        }
    }

    private static void takesLeast() {
        int[][] all = {{0, 0, 0xAAA}, {3, 0, 0xAAA}, {6, 0, 0xAAA}, {4, 0, 0xAAA}, {5, 0, 0xFFF}};
        LoofahSaints x = Check.with(all, 0xFFF, 0x0FC, 0x003);
        c.due("saint", x.of(0, 10), 0x02A);
        c.due("heretic", x.of(1, 10), 0x015);
        c.due("told", x.of(2, 10), 0x015);
        c.due("dry pith", x.of(3, 10), 0);
        c.due("rattle", x.of(4, 10), 0x001);
        c.due("saint 1", x.of(0, 11), 0x0A8);
        c.due("heretic 1", x.of(1, 11), 0x054);
        c.due("fewer", x.of(0, 12), 0x002);
        c.due("fewer of heretic", x.of(1, 12), 0x001);
        Check.order(x, "soft 3 p=0;soft 4 p=1;scrub 99 p=2");
        c.due("grit 0", x.of(0, 10), 0);
        c.due("grit below 0", x.of(1, 10), 0);
        c.due("all", x.of(2, 10), 0x555);
    }

    private static void lasts() {
        LoofahSaints x = Check.with(new int[][] {{0, 0, 0}});
        c.due("6", x.of(0, 7), 32);
        x.set(0, 1, 93);
        c.due("93 dry", x.of(0, 7), 1);
        x.set(0, 1, 92);
        c.due("92 dry", x.of(0, 7), 2);
        x.set(0, 1, 99);
        c.due("thread", x.of(0, 7), 0);
        x.set(0, 1, 0);
        x.use(0, 0);
        c.due("one used", x.of(0, 7), 31);
        c.due("changes nothing", x.of(0, 3), 6);
        x.set(0, 1, 93);
        c.due("93 wet", x.of(0, 7), 2);
        Check.order(x, "wear 1");
        c.due("never, wet", x.of(0, 7), 200);
        x.set(0, 1, 98);
        c.due("98 wet", x.of(0, 7), 200);
        x.pass(1);
        c.due("98 dry", x.of(0, 7), 1);
        Check.order(x, "wear 99");
        x.set(0, 1, 0);
        c.due("99", x.of(0, 7), 1);
        Check.order(x, "wear 2");
        c.due("2", x.of(0, 7), 98);
        Check.order(x, "wear 0");
        c.due("0", x.of(0, 7), 200);
    }
}
