/** Promises 11 to 13, and A DAY, ON n DAYS, CLEAN of the Terms. */
public final class DaysTest {
    private static final Check c = new Check();

    public static void main(String[] args) {
        told();
        clean();
        pass();
        aDay();
        on();
        onOfAll();
        lateDays();
        c.end();
    }

    private static void told() {
        LoofahSaints x = Check.with(new int[][] {{0, 0, 4095}, {0, 0, 4095}, {1, 9, 4095}}, 0x00F, 0xFFF, 1, 0);
        x.novice(0, 1, 5);
        x.novice(3, 1, 4095);
        c.due("day", x.told(0), 0);
        c.due("hard", x.told(1), 6);
        c.due("on all", x.told(2), 17);
        c.due("threads", x.told(3), 0);
        c.due("on 0", x.told(10), 15);
        c.due("on 1", x.told(11), 4095);
        c.due("on 2", x.told(12), 1);
        c.due("on 3", x.told(13), 0);
        c.due("grows 0", x.told(20), 5);
        c.due("grows 3", x.told(23), 4095);
        x.set(0, 1, 99);
        x.set(2, 1, 99);
        x.set(1, 1, 98);
        c.due("threads 0, 2", x.told(3), 5);
        int[] none = {-1, 6, 7, 8, 9, 14, 19, 24, 29, 34, Integer.MIN_VALUE, Integer.MAX_VALUE};
        for (int what : none) {
            c.due("told " + what, x.told(what), -1);
        }
    }

    private static void clean() {
        LoofahSaints x = Check.with(new int[][] {{0, 0, 4095}}, 0xFFF, 0x001, 0, 0);
        x.peg(0, 0);
        c.due("4 days by 3", x.told(30), 4);
        c.due("never", x.told(31), -5);
        c.due("now", x.told(32), 0);
        x.novice(0, 1, 0x001);
        c.due("grows", x.told(30), -5);
        x.novice(2, 1, 0x001);
        c.due("clean now, though it grows", x.told(32), 0);
        c.due("changes nothing", x.told(10) + x.told(0) + x.of(0, 3), 0xFFF);
        LoofahSaints y = Check.with(new int[][] {{6, 0, 0}}, 0x800);
        y.peg(0, 0);
        Check.order(y, "soft 9 d<8;wear 0");
        c.due("on the ninth day", y.told(30), 9);
        y.set(0, 0, 0x800);
        c.due("holes of told", y.told(30), -5);
        // one doctrine on each day that is 1 modulo 4
        LoofahSaints z = Check.with(new int[][] {{6, 0, 0}}, 0xFFF);
        z.peg(0, 0);
        z.row(0, 1, 1);
        Check.order(z, "soft 3 p=0;wear 0");
        c.due("the twelfth on day 45", z.told(30), 46);
        z.pass(3);
        c.due("three days sooner", z.told(30), 43);
        // one on each day that is 3 modulo 4 and 9 modulo 10: 19, 39, 59, 79
        LoofahSaints w = Check.with(new int[][] {{6, 0, 0}}, 0x007);
        w.peg(0, 0);
        w.row(0, 3, 1);
        Check.order(w, "soft 3 p=0;soft 9 d<9;wear 0");
        c.due("60 are asked", w.told(30), 60);
        w.novice(0, 0, 0x00F);
        c.due("80 are not", w.told(30), -5);
        w.pass(1);
        w.novice(0, 0, 0x007);
        c.due("59", w.told(30), 59);
    }

    private static void pass() {
        LoofahSaints x = new LoofahSaints();
        c.due("-1", x.pass(-1), -2);
        c.due("61", x.pass(61), -2);
        c.due("0", x.pass(0), 0);
        c.due("60", x.pass(60), 60);
        c.due("1", x.pass(1), 61);
        c.due("day", x.told(0), 61);
        c.due("min", x.pass(Integer.MIN_VALUE), -2);
    }

    private static void aDay() {
        int[][] all = {{0, 0, 0x00F}, {0, 0, 0xFFF}, {0, 0, 0xFFF}, {0, 0, 0xFFF}};
        LoofahSaints x = Check.with(all, 0xFFF, 0xFFF);
        x.peg(1, 0);
        x.peg(0, 0);
        x.peg(2, 1);
        x.set(2, 1, 99);
        x.use(3, 3);
        x.novice(0, 1, 0x003);
        x.novice(2, 1, 0x800);
        c.due("a day", x.pass(1), 1);
        // 0 takes 7, then 1 takes 8, 0x10, 0x20; then 3 grows
        c.due("on 0", x.told(10), 0xFC3);
        c.due("on 1, the thread's", x.told(11), 0xFFF);
        c.due("on 2", x.told(12), 0x800);
        c.due("used", x.of(0, 3), 6);
        c.due("used, wet", x.of(0, 4), 1);
        c.due("not used, dry", x.of(3, 4), 0);
        c.due("not used, no wear", x.of(3, 3), 6);
        c.due("the thread's peg stays", x.of(2, 5), 1);
        x.peg(1, -1);
        c.due("a day", x.pass(1), 2);
        c.due("on 0", x.told(10), 0xFC3);
        c.due("half, as it is wet", x.of(0, 3), 9);
        c.due("dry", x.of(1, 4), 0);
        x.set(0, 1, 97);
        x.pass(1);
        c.due("99 at most", x.of(0, 3), 99);
        c.due("wet on the day that it became one", x.of(0, 4), 1);
        x.pass(1);
        c.due("dry then", x.of(0, 4), 0);
        c.due("it takes none then", x.told(10), 0xFC3);
        // a PITH is used dry on the first day, wet on the second
        LoofahSaints y = Check.with(new int[][] {{4, 1, 0xFFF}}, 0xFFF);
        y.peg(0, 0);
        y.pass(1);
        c.due("dry pith", y.told(10), 0xFFF);
        y.pass(1);
        c.due("wet pith", y.told(10), 0xFF0);
    }

    private static void on() {
        LoofahSaints x = Check.with(new int[][] {{0, 0, 0xFFF}, {0, 0, 0xFFF}}, 0xFFF, 0x00F);
        x.peg(0, 0);
        x.novice(1, 1, 0x010);
        c.due("now", x.on(0, 0), 16);
        c.due("all in 1", x.on(1, 0), 9 + 5);
        c.due("all in 60", x.on(60, 0), 5);
        c.due("on 0 in 2", x.on(2, 10), 0xFC0);
        c.due("on 1 in 2", x.on(2, 11), 0x01F);
        c.due("on 3 in 2", x.on(2, 13), 0);
        c.due("wear 0 in 2", x.on(2, 20), 9);
        c.due("wear 0 in 60", x.on(60, 20), 99);
        c.due("wear 1 in 60", x.on(60, 21), 0);
        c.due("what 22", x.on(1, 22), -1);
        c.due("what 1", x.on(1, 1), -1);
        c.due("what 9", x.on(1, 9), -1);
        c.due("what 14", x.on(1, 14), -1);
        c.due("what 19", x.on(1, 19), -1);
        c.due("what -1", x.on(61, -1), -1);
        c.due("what min", x.on(1, Integer.MIN_VALUE), -1);
        c.due("n -1", x.on(-1, 0), -2);
        c.due("n 61", x.on(61, 10), -2);
        c.due("nothing changed", x.told(0) + x.told(10) + x.of(0, 3) + x.of(0, 4), 0xFFF);
    }

    /** Six SAINTS with all that is theirs go on as they are. */
    private static void onOfAll() {
        int[][] all = {{1, 9, 0xFFF}, {2, 0, 0xFFF}, {3, 0, 0}, {4, 5, 0xFFF}, {5, 0, 0xFFF}, {6, 0, 0}};
        LoofahSaints x = Check.with(all, 0xFFF, 0xFFF, 0xFFF, 0xFFF);
        x.row(5, 0, 2);
        x.row(5, 1, 9);
        for (int s = 0; s < 6; s++) {
            x.set(s, 1, s);
        }
        int[][] left = {{0, 11, 9, 12, 11, 7}, {0, 10, 6, 4, 9, 0}, {0, 9, 3, 0, 8, 0}};
        for (int s = 0; s < 6; s++) {
            x.peg(s, 0);
            for (int days = 1; days <= 3; days++) {
                c.due("saint " + s + " in " + days, Integer.bitCount(x.on(days, 10)), left[days - 1][s]);
                c.due("wear " + s + " in " + days, x.on(days, 20 + s), s + 3 + 3 * days);
                c.due("mean in " + days, x.mean(days, 0) * 6 / x.mean(days, 1), 15 + 3 + 3 * days);
            }
            x.peg(s, -1);
        }
        c.due("now", x.on(0, 0), 48);
    }

    private static void lateDays() {
        LoofahSaints x = Check.with(new int[][] {{5, 0, 0xFFF}}, 0xFFF);
        for (int i = 0; i < 166; i++) {
            x.pass(60);
        }
        c.due("9960", x.told(0), 9960);
        c.due("40 is too far", x.pass(40), -3);
        c.due("bad ahead of that", x.pass(61), -2);
        c.due("39", x.pass(39), 9999);
        c.due("1", x.pass(1), -3);
        c.due("0", x.pass(0), 9999);
        x.peg(0, 0);
        Check.order(x, "soft 2 d=9;scrub 6 d=0;wear 2");
        c.due("day 10000 and on", x.on(2, 10), 0xFE0);
        c.due("wear in 60", x.on(60, 20), 61);
        c.due("day", x.told(0), 9999);
        c.due("mean beyond", x.mean(60, 0), 61);
        x.plan(0, 0);
        x.plan(0, 0);
        c.due("ends beyond", x.ends(0), 7);
    }
}
