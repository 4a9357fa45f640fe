/** What the Terms of DAYS, SHARING, SCRUBBING and promises 11 to 15 say of edges: each sentence by a test of its own. */
public final class DayEdgesTest {
    private static final Check c = new Check();
    private static final int MIN = Integer.MIN_VALUE, MAX = Integer.MAX_VALUE, ALL = 4095;

    public static void main(String[] args) {
        beyond();
        onDays();
        lasts();
        clean();
        shared();
        scrubbedRows();
        fewer();
        dear();
        told();
        pass();
        on();
        sharedAnswers();
        scrubbedAnswers();
        c.end();
    }

    private static LoofahSaints one(int kind, int holes, int... on) {
        return Check.with(new int[][] {{kind, 0, holes}}, on);
    }

    private static LoofahSaints onTheLastDay(LoofahSaints x) {
        for (int i = 0; i < 166; i++) {
            x.pass(60);
        }
        c.due("the last day", x.pass(39), 9999);
        return x;
    }

    private static void beyond() {
        c.says("All that follows is asked, goes on from how all is (DAYS beyond 9999, too), and changes nothing");
        LoofahSaints x = onTheLastDay(one(5, ALL, ALL));
        x.peg(0, 0);
        x.novice(1, 1, 1);
        c.due("a rattle takes 2 on day 9999", x.on(1, 10), 0xFFC);
        c.due("1 on day 10000", x.on(2, 10), 0xFF8);
        c.due("2 on day 10001", x.on(3, 10), 0xFE0);
        c.due("till day 10059", x.on(60, 20), 99);
        c.due("on all", x.on(60, 0), 1);
        c.due("clean", x.told(30), 8);
        c.due("mean", x.mean(3, 0), 12);
        for (int i = 1; i <= 8; i++) {
            x.plan(0, 0);
        }
        c.due("ends on day 10007", x.ends(0), 1);
        c.due("ends", x.ends(1), 6 + 7 * 3);
        c.due("day", x.told(0), 9999);
        c.due("on", x.told(10), ALL);
        c.due("wear", x.of(0, 3), 0);
        c.due("wet", x.of(0, 4), 0);
    }

    private static void onDays() {
        c.says("ON n DAYS (0 .. 60): what is ON a NOVICE; WEAR of a SAINT; how much is ON all, together");
        LoofahSaints x = one(0, ALL, ALL, 0, 0, 0);
        Check.order(x, "wear 2");
        x.peg(0, 0);
        x.novice(3, 1, 0x800);
        c.due("0: on", x.on(0, 10), ALL);
        c.due("0: wear", x.on(0, 20), 0);
        c.due("0: all", x.on(0, 0), 12);
        c.due("0: nothing grows", x.on(0, 13), 0);
        c.due("1: on", x.on(1, 10), 0xFF8);
        c.due("1: wear", x.on(1, 20), 2);
        c.due("1: all", x.on(1, 0), 10);
        c.due("1: it grows", x.on(1, 13), 0x800);
        c.due("60: on", x.on(60, 10), 0);
        c.due("60: wear", x.on(60, 20), 61);
        c.due("60: all", x.on(60, 0), 1);
        c.due("61", x.on(61, 0), -2);
        c.due("-1", x.on(-1, 0), -2);
    }

    private static void lasts() {
        c.says("LASTS of a SAINT: how often it could be USED now, one time behind the other on this DAY, till it is a "
            + "THREAD (200 at most)");
        LoofahSaints x = one(0, 0);
        Check.order(x, "wear 2");
        c.due("dry by 2", x.of(0, 7), 98);
        x.use(0, 0);
        c.due("wet by 1", x.of(0, 7), 97);
        x.set(0, 1, 0);
        c.due("99 times by 1", x.of(0, 7), 99);
        x.set(0, 1, 98);
        c.due("once", x.of(0, 7), 1);
        x.set(0, 1, 99);
        c.due("a thread", x.of(0, 7), 0);
        Check.order(x, "wear 0");
        c.due("a thread by 0", x.of(0, 7), 0);
        x.set(0, 1, 98);
        c.due("98 by 0", x.of(0, 7), 200);
        Check.order(x, "wear 1");
        c.due("wet by the half of 1", x.of(0, 7), 200);
        x.pass(1);
        c.due("dry by 1", x.of(0, 7), 1);
        x.set(0, 1, 97);
        c.due("dry by 1, then by the half of it", x.of(0, 7), 200);
        Check.order(x, "wear 99");
        x.set(0, 1, 0);
        c.due("99 at once", x.of(0, 7), 1);
    }

    /** Takes one DOCTRINE on each DAY that is 19 modulo 20, or 0 modulo 20. */
    private static LoofahSaints seldom(int part, String days, int on) {
        LoofahSaints x = one(6, 0, on);
        x.peg(0, 0);
        x.row(0, part, 1);
        c.due("seldom", Check.order(x, "soft 3 p=0;soft 9 " + days + ";wear 0"), 0);
        return x;
    }

    private static void clean() {
        c.says("CLEAN of a NOVICE: the fewest DAYS (0 .. 60) behind which nothing is ON it (-5: not by then)");
        LoofahSaints x = one(0, ALL, 1, 0, 0x007, 0x008);
        x.novice(1, 1, 1);
        x.peg(0, 2);
        c.due("0, though it grows", x.told(31), 0);
        c.due("1", x.told(32), 1);
        c.due("never", x.told(33), -5);
        x.novice(2, 1, 1);
        c.due("never, as it grows", x.told(32), -5);
        c.due("days 19, 39, 59", seldom(3, "d<9", 0x007).told(30), 60);
        c.due("days 19, 39, 59, 79", seldom(3, "d<9", 0x00F).told(30), -5);
        c.due("days 0, 20, 40", seldom(0, "d>0", 0x007).told(30), 41);
        LoofahSaints y = seldom(0, "d>0", 0x00F);
        c.due("days 0, 20, 40, 60", y.told(30), -5);
        y.pass(1);
        c.due("days 20, 40, 60 from day 1 on", y.told(30), 60);
    }

    private static void rowOf(LoofahSaints x, int most, int... due) {
        c.due("how much", x.shared(0), most);
        for (int s = 0; s < due.length; s++) {
            c.due("saint " + s + " of " + due.length, x.shared(10 + s), due[s]);
        }
    }

    private static void shared() {
        sharedWays();
        sharedFirst();
    }

    private static void sharedWays() {
        c.says("SHARED: of all ways to give each SAINT, no THREAD, one NOVICE, or none, no NOVICE to two, that by which "
            + "most is TAKEN today, together, each by itself");
        rowOf(new LoofahSaints(), 0);
        LoofahSaints x = Check.with(new int[][] {{0, 0, ALL}, {0, 0, ALL}}, ALL);
        rowOf(x, 3, 0, 1);
        x.set(0, 1, 99);
        rowOf(x, 3, -5, 0);
        x.set(1, 1, 99);
        rowOf(x, 0, -5, -5);
        int[][] six = {{0, 0, 1}, {0, 0, 3}, {0, 0, 7}, {0, 0, 15}, {1, 9, 31}, {1, 9, 63}};
        rowOf(Check.with(six, ALL, ALL, ALL, ALL), 6 + 5 + 3 + 3, -5, -5, 0, 1, 2, 3);
        int[][] each = {{0, 0, 1}, {0, 0, 1}};
        rowOf(Check.with(each, 1), 1, 0, 1);
        rowOf(Check.with(each, 1, 1), 2, 0, 1);
        LoofahSaints below = Check.with(each, 1, 1);
        Check.order(below, "soft 9 p=0");
        rowOf(below, 1, 0, 1);
        LoofahSaints odd = Check.with(new int[][] {{5, 0, ALL}}, 0x001, 0x003);
        rowOf(odd, 1, 0);
        odd.pass(1);
        rowOf(odd, 2, 1);
    }

    private static void sharedFirst() {
        c.says("(of several the first as a row by SAINTS of NOVICES, none, or a THREAD, being 9 there): how much; whom "
            + "one has (-5: none)");
        int[][] six = {{0, 0, 0}, {0, 0, 0}, {0, 0, 0}, {0, 0, 0}, {0, 0, 0}, {0, 0, 0}};
        LoofahSaints x = Check.with(six);
        rowOf(x, 0, 0, 1, 2, 3, -5, -5);
        x.set(1, 1, 99);
        rowOf(x, 0, 0, -5, 1, 2, 3, -5);
        x.set(0, 1, 99);
        rowOf(x, 0, -5, -5, 0, 1, 2, 3);
        int[][] two = {{0, 0, 0x001}, {0, 0, 0x003}};
        rowOf(Check.with(two, 0x003, 0x002), 2, 0, 1);
        rowOf(Check.with(two, 0x003, 0x003, 0x003), 3, 0, 1);
        rowOf(Check.with(two, 0, 0, 0x003), 2, 0, 2);
        int[][] three = {{0, 0, 0}, {0, 0, 1}, {0, 0, 0}};
        rowOf(Check.with(three, 0, 0, 0, 1), 1, 0, 3, 1);
        rowOf(Check.with(three, 1), 1, 1, 0, 2);
    }

    private static void scrubbed(LoofahSaints x, int novice, int least, int... row) {
        int n = row.length;
        c.due("least by " + n, x.scrubbed(novice, n, -1), least);
        for (int k = 0; k < 3; k++) {
            c.due("the " + k + "-th of " + n, x.scrubbed(novice, n, k), k < n ? row[k] : -5);
        }
    }

    private static void scrubbedRows() {
        c.says("SCRUBBED of a NOVICE and n (1 .. 3): of all rows of n SAINTS (a THREAD takes nothing), each at most once, "
            + "by which, USED on it one behind the other on this DAY, least is ON it then, the first as a row of numbers");
        LoofahSaints x = Check.with(new int[][] {{0, 0, 0x00F}, {0, 0, 0x007}, {0, 0, 0xF00}}, 0x00F, 0, ALL, 0xF0F);
        scrubbed(x, 0, 1, 0);
        scrubbed(x, 0, 0, 1, 0);
        scrubbed(x, 0, 0, 1, 0, 2);
        scrubbed(x, 1, 0, 0);
        scrubbed(x, 1, 0, 0, 1);
        scrubbed(x, 1, 0, 0, 1, 2);
        scrubbed(x, 2, 6, 0, 2);
        scrubbed(x, 3, 1, 1, 0, 2);
        x.set(0, 1, 99);
        scrubbed(x, 0, 1, 1);
        scrubbed(x, 0, 1, 0, 1);
        scrubbed(x, 3, 2, 0, 1, 2);
        x.set(1, 1, 99);
        x.set(2, 1, 99);
        scrubbed(x, 2, 12, 0);
        scrubbed(x, 2, 12, 0, 1, 2);
        LoofahSaints threads = Check.with(new int[][] {{0, 0, ALL}, {0, 0, ALL}, {0, 0, ALL}}, ALL);
        for (int s = 0; s < 3; s++) {
            threads.set(s, 1, 99);
        }
        scrubbed(threads, 0, 12, 0, 1, 2);
        LoofahSaints once = Check.with(new int[][] {{0, 0, ALL}, {0, 0, 0}}, 0x03F);
        scrubbed(once, 0, 3, 0, 1);
        LoofahSaints dry = Check.with(new int[][] {{4, 9, ALL}, {0, 0, ALL}}, ALL);
        scrubbed(dry, 0, 9, 0, 1);
        int[][] six = {{0, 0, 0}, {0, 0, 0}, {0, 0, 0}, {0, 0, 1}, {0, 0, 2}, {0, 0, 4}};
        scrubbed(Check.with(six, 7), 0, 0, 3, 4, 5);
    }

    private static void fewer() {
        c.says("how much; the k-th (-5: there are fewer SAINTS than n)");
        for (int size = 0; size <= 3; size++) {
            int[][] all = new int[size][];
            for (int s = 0; s < size; s++) {
                all[s] = new int[] {0, 0, 0};
            }
            LoofahSaints x = Check.with(all, 5);
            for (int n = 1; n <= 3; n++) {
                c.due(size + " for " + n, x.scrubbed(0, n, -1), size < n ? -5 : 2);
                c.due(size + " for " + n, x.scrubbed(0, n, 0), size < n ? -5 : 0);
                c.due(size + " for " + n, x.scrubbed(0, n, n - 1), size < n ? -5 : n - 1);
            }
        }
    }

    private static void dear() {
        c.says("DEAR: the SAINT, no THREAD, without which SHARED takes least (of several the first; -5: all are THREADS); "
            + "how much then");
        LoofahSaints none = new LoofahSaints();
        c.due("there are none", none.told(4), -5);
        c.due("there are none", none.told(5), -5);
        LoofahSaints x = Check.with(new int[][] {{0, 0, 1}, {0, 0, 3}, {0, 0, 3}}, 3, 3);
        c.due("without the first all is alike, without the others not", x.told(4), 1);
        c.due("how much then", x.told(5), 3);
        x.set(1, 1, 99);
        c.due("no thread", x.told(4), 2);
        c.due("how much then", x.told(5), 1);
        x.set(2, 1, 99);
        c.due("the one that is left", x.told(4), 0);
        c.due("nothing then", x.told(5), 0);
        x.set(0, 1, 99);
        c.due("all are", x.told(4), -5);
        c.due("all are", x.told(5), -5);
        LoofahSaints y = Check.with(new int[][] {{0, 0, 0}, {0, 0, 0}});
        c.due("of several the first", y.told(4), 0);
        c.due("nothing is taken at all", y.told(5), 0);
        int[][] six = {{0, 0, 1}, {0, 0, 1}, {0, 0, 1}, {0, 0, 1}, {0, 0, 1}, {0, 0, 2}};
        LoofahSaints z = Check.with(six, 1, 1, 1, 2);
        LoofahSaints first = Check.with(new int[][] {{0, 0, 7}, {0, 0, 1}, {0, 0, 0}}, 7, 1);
        c.due("the first", first.told(4), 0);
        c.due("one then", first.told(5), 1);
        c.due("the last", z.told(4), 5);
        c.due("three then", z.told(5), 3);
    }

    private static void told() {
        c.says("What 0 DAY, 1 HARD, 2 how much is ON all, together, 3 which SAINTS are THREADS (bits), 4 DEAR (-5), "
            + "5 how much then (-5), 10 and n what is ON NOVICE n (bits), 20 and n what GROWS on it, "
            + "30 and n CLEAN of it (-5). NONE");
        LoofahSaints x = Check.with(new int[][] {{0, 0, 1}, {0, 0, 1}, {0, 0, 1}, {0, 0, 1}, {0, 0, 1}, {0, 0, 1}});
        int[] atFirst = {0, 6, 0, 0, 0, 0, -1, -1, -1, -1, 0, 0, 0, 0, -1, -1, -1, -1, -1, -1, 0, 0, 0, 0, -1, -1, -1,
            -1, -1, -1, 0, 0, 0, 0, -1};
        for (int what = 0; what < atFirst.length; what++) {
            c.due("at first " + what, x.told(what), atFirst[what]);
        }
        for (int what : new int[] {-1, -10, 35, 40, MIN, MIN + 10, MIN + 20, MIN + 30, MAX}) {
            c.due("what " + what, x.told(what), -1);
        }
        for (int n = 0; n < 4; n++) {
            x.novice(n, 0, ALL);
            x.novice(n, 1, ALL - n);
        }
        for (int s = 0; s < 6; s++) {
            x.set(s, 1, 99);
            c.due("threads to " + s, x.told(3), (2 << s) - 1);
        }
        c.due("all on all", x.told(2), 48);
        for (int n = 0; n < 4; n++) {
            c.due("on " + n, x.told(10 + n), ALL);
            c.due("grows on " + n, x.told(20 + n), ALL - n);
            c.due("never clean " + n, x.told(30 + n), -5);
        }
    }

    private static void pass() {
        c.says("n DAYS (0 .. 60) go: DAY. BAD; STATE: it would be above 9999");
        LoofahSaints x = one(0, ALL, ALL);
        x.peg(0, 0);
        c.due("none", x.pass(0), 0);
        c.due("nothing went", x.told(10), ALL);
        for (int n : new int[] {-1, 61, -60, 9999, MIN, MAX}) {
            c.due("n " + n, x.pass(n), -2);
        }
        c.due("the least", x.pass(1), 1);
        c.due("the most", x.pass(60), 61);
        LoofahSaints y = new LoofahSaints();
        for (int i = 0; i < 166; i++) {
            y.pass(60);
        }
        c.due("9960", y.told(0), 9960);
        c.due("10020", y.pass(60), -3);
        c.due("10000", y.pass(40), -3);
        c.due("none went", y.told(0), 9960);
        c.due("9999", y.pass(39), 9999);
        c.due("10000", y.pass(1), -3);
        c.due("bad ahead of state", y.pass(61), -2);
        c.due("bad ahead of state", y.pass(-1), -2);
        c.due("none", y.pass(0), 9999);
    }

    private static void on() {
        c.says("ON: what 0 how much is ON all, 10 and n what is ON NOVICE n (bits), 20 and s WEAR of SAINT s. NONE; "
            + "BAD: n");
        LoofahSaints x = Check.with(new int[][] {{0, 0, 1}, {0, 0, 1}}, 1, 2, 4, 0xFF8);
        x.set(0, 1, 98);
        x.set(1, 1, 99);
        c.due("all", x.on(0, 0), 3 + 9);
        int[] due = {1, 2, 4, 0xFF8, -1, -1, -1, -1, -1, -1, 98, 99, -1};
        for (int i = 0; i < due.length; i++) {
            c.due("what " + (10 + i), x.on(1, 10 + i), due[i]);
        }
        for (int what : new int[] {-1, 1, 9, 25, 26, 30, MIN, MIN + 10, MIN + 20, MAX}) {
            c.due("what " + what, x.on(0, what), -1);
            c.due("none ahead of bad", x.on(61, what), -1);
            c.due("none ahead of bad", x.on(-1, what), -1);
        }
        for (int n : new int[] {-1, 61, MIN, MAX}) {
            c.due("n " + n, x.on(n, 0), -2);
            c.due("n " + n, x.on(n, 13), -2);
            c.due("n " + n, x.on(n, 21), -2);
        }
        c.due("no saint at all", new LoofahSaints().on(0, 20), -1);
    }

    private static void sharedAnswers() {
        c.says("SHARED: what 0 how much, 10 and s whom SAINT s has (-5). NONE");
        LoofahSaints x = Check.with(new int[][] {{0, 0, 1}, {0, 0, 1}}, 0, 0, 0, 1);
        c.due("how much", x.shared(0), 1);
        c.due("the last novice", x.shared(10), 0);
        c.due("the last novice", x.shared(11), 3);
        for (int what : new int[] {-1, 1, 9, 12, 15, 16, 20, MIN, MIN + 10, MAX}) {
            c.due("what " + what, x.shared(what), -1);
        }
        c.due("no saint at all", new LoofahSaints().shared(10), -1);
        x.set(1, 1, 99);
        c.due("a thread has none", x.shared(11), -5);
        int[][] six = {{0, 0, 1}, {0, 0, 1}, {0, 0, 1}, {0, 0, 1}, {0, 0, 1}, {0, 0, 1}};
        LoofahSaints y = Check.with(six);
        c.due("the last saint has none", y.shared(15), -5);
        c.due("a seventh", y.shared(16), -1);
    }

    private static void scrubbedAnswers() {
        c.says("SCRUBBED: k -1 how much, else the k-th (k beyond the row: -5); -5. NONE: novice, k (-1 .. 2); BAD: n");
        LoofahSaints x = Check.with(new int[][] {{0, 0, 1}, {0, 0, 2}, {0, 0, 4}}, 0, 0, 0, 7);
        scrubbed(x, 3, 2, 0);
        scrubbed(x, 3, 1, 0, 1);
        scrubbed(x, 3, 0, 0, 1, 2);
        for (int novice : new int[] {-1, 4, MIN, MAX}) {
            c.due("novice " + novice, x.scrubbed(novice, 1, 0), -1);
            c.due("novice ahead of n", x.scrubbed(novice, 0, 0), -1);
        }
        for (int k : new int[] {-2, 3, MIN, MAX}) {
            c.due("k " + k, x.scrubbed(0, 1, k), -1);
            c.due("k ahead of n", x.scrubbed(0, 4, k), -1);
            c.due("k ahead of fewer", new LoofahSaints().scrubbed(0, 1, k), -1);
        }
        for (int n : new int[] {0, 4, -1, MIN, MAX}) {
            for (int k = -1; k < 3; k++) {
                c.due("n " + n, x.scrubbed(0, n, k), -2);
                c.due("n ahead of fewer", new LoofahSaints().scrubbed(0, n, k), -2);
            }
        }
    }
}
