/** What THE IMAGE, ACTS and promises 26 to 31 say of edges: each sentence by a test of its own. */
public final class ImageEdgesTest {
    private static final Check c = new Check();
    private static final int MIN = Integer.MIN_VALUE, MAX = Integer.MAX_VALUE, ALL = 4095;

    public static void main(String[] args) {
        imageOfAll();
        imageOfFullRows();
        image();
        undo();
        bodies();
        wrapping();
        trace();
        act();
        traceOf();
        taken();
        count();
        c.end();
    }

    private static void imageOfAll() {
        c.says("THE IMAGE: SAINTS with all that is theirs, NOVICES, DAY, SEEN, the PLAN, the BOOK, which ORDER holds");
        LoofahSaints x = Check.with(new int[][] {{6, 5, 0x0F0}}, 1, 2, 3, 4);
        x.row(0, 1, 7);
        x.peg(0, 2);
        x.novice(2, 1, 0x010);
        Check.order(x, "wear 3;scrub 1 p=0");
        x.pass(1);
        x.see(0, 0, 1);
        x.plan(2, 0);
        x.book(0, 1);
        x.book(1, 0);
        c.due("image", x.image(), 1);
        x.row(0, 1, 1);
        x.row(0, 3, 1);
        x.peg(0, -1);
        x.set(0, 0, ALL);
        for (int n = 0; n < 4; n++) {
            x.novice(n, 0, ALL);
            x.novice(n, 1, ALL);
        }
        Check.order(x, "wear 50;soft 1 p=0");
        x.pass(5);
        x.see(-1, 0, 0);
        x.see(0, 1, ALL);
        x.plan(-1, 0);
        x.plan(0, 0);
        x.book(-1, 0);
        for (int i = 0; i < 3; i++) {
            x.book(0, 5);
        }
        x.set(0, 1, 88);
        x.saint(0, 0, 0);
        c.due("undo", x.undo(), 1);
        int[] saint = {6, 5, 0x0F0, 3, 1, 2, 11};
        for (int what = 0; what < saint.length; what++) {
            c.due("what " + what, x.of(0, what), saint[what]);
        }
        c.due("its other rows", x.row(0, 3, 0) + x.row(0, 0, 0) + x.row(0, 2, 0), 0);
        c.due("no second saint", x.of(1, 0), -10001);
        int[] on = {1, 2, 0x010, 4};
        for (int n = 0; n < 4; n++) {
            c.due("on " + n, x.told(10 + n), on[n]);
            c.due("grows " + n, x.told(20 + n), n == 2 ? 0x010 : 0);
        }
        c.due("day", x.told(0), 1);
        c.due("seen", x.count(2), 1);
        c.due("seen", x.holed(0, 0), 2048);
        c.due("plan", x.count(3), 1);
        c.due("plan", x.ends(1), 0);
        c.due("book", x.count(4), 2);
        c.due("book", x.looked(), 1);
        c.due("hard by the order that held", x.told(1), 3);
    }

    private static void imageOfFullRows() {
        c.says("SEEN, the PLAN, the BOOK");
        LoofahSaints x = Check.with(new int[][] {{0, 0, 1}, {0, 0, 2}}, 3, 3, 3, 3);
        for (int i = 0; i < 8; i++) {
            x.see(i % 2, i % 4, 1 + i % 2);
            x.plan(1, i % 2 * 10 + i % 4);
            x.book(i % 4, i < 7 ? 3 : 0);
        }
        x.image();
        x.see(-1, 0, 0);
        x.plan(-1, 0);
        x.book(-1, 0);
        for (int i = 0; i < 8; i++) {
            x.see(0, 0, 0);
            x.plan(2, 0);
            x.book(0, 0);
        }
        x.undo();
        c.due("seen of 0", x.holed(0, 1), 1);
        c.due("seen of 1", x.holed(1, 1), 2);
        c.due("seen is full", x.see(0, 0, 0), -4);
        c.due("plan", x.ends(0), 8 - 4);
        c.due("plan", x.ends(1), 2 * (6 + 3 + 3 + 3));
        c.due("the plan is full", x.plan(0, 0), -4);
        c.due("book", x.looked(), 7);
        c.due("the book is full", x.book(0, 0), -4);
    }

    private static void image() {
        c.says("THE IMAGE is taken: how many SAINTS there are");
        LoofahSaints x = new LoofahSaints();
        c.due("none", x.image(), 0);
        for (int i = 1; i <= 6; i++) {
            x.saint(0, 0, 0);
            c.due("saints", x.image(), i);
        }
        x.saint(0, 0, 0);
        c.due("no seventh", x.image(), 6);
        c.due("the newest image", x.undo(), 6);
    }

    private static void undo() {
        c.says("All is as THE IMAGE: how many SAINTS. STATE: there is none");
        LoofahSaints x = Check.with(new int[][] {{0, 0, 1}});
        c.due("none", x.undo(), -3);
        x.novice(0, 0, 5);
        c.due("none still", x.undo(), -3);
        c.due("nothing came of it", x.told(10), 5);
        x.image();
        c.due("at once", x.undo(), 1);
        x.novice(0, 0, 6);
        c.due("undo", x.undo(), 1);
        c.due("as it was", x.told(10), 5);
        x.novice(0, 0, 7);
        c.due("again", x.undo(), 1);
        c.due("as it was again", x.told(10), 5);
        LoofahSaints empty = new LoofahSaints();
        empty.image();
        for (int i = 0; i < 6; i++) {
            empty.saint(6, 9, ALL);
            empty.row(i, 0, 9);
            empty.peg(i, 0);
            empty.use(i, 0);
        }
        c.due("no saints", empty.undo(), 0);
        c.due("the first", empty.saint(6, 0, 0), 0);
        c.due("its row", empty.row(0, 0, 0), 0);
        c.due("its wear", empty.of(0, 3), 0);
        c.due("its wet", empty.of(0, 4), 0);
        c.due("its peg", empty.of(0, 5), -5);
        LoofahSaints fewer = Check.with(new int[][] {{0, 0, 0x001}}, 0x007, 0x007);
        fewer.image();
        fewer.saint(0, 0, ALL);
        fewer.set(1, 1, 90);
        c.due("two share", fewer.shared(0), 4);
        c.due("two scrub", fewer.scrubbed(0, 2, -1), 0);
        c.due("one again", fewer.undo(), 1);
        c.due("one shares", fewer.shared(0), 1);
        c.due("the second has nobody", fewer.shared(11), -1);
        c.due("one scrubs", fewer.scrubbed(0, 1, -1), 2);
        c.due("two do not", fewer.scrubbed(0, 2, -1), -5);
        c.due("wear of one", fewer.mean(0, 0), 0);
        c.due("dear without it", fewer.told(5), 0);
        LoofahSaints full = Check.with(new int[][] {{0, 0, 1}, {0, 0, 1}, {0, 0, 1}, {0, 0, 1}, {0, 0, 1}, {0, 0, 1}});
        full.image();
        c.due("six", full.undo(), 6);
        c.due("full still", full.saint(0, 0, 0), -4);
        LoofahSaints before = Check.with(new int[][] {{0, 0, 1}});
        before.image();
        Check.order(before, "wear 9");
        before.undo();
        c.due("none held", before.told(1), 6);
        c.due("the order is one of 6 still", before.count(1), 1);
    }

    /** An ACT of SAINT 3, a KIND with v 5: what it answers, and the bodies. */
    private static void acts(int kind, int act, int x, int due, int... ran) {
        LoofahSaints y = Check.with(new int[][] {{0, 9, 1}, {0, 9, 1}, {0, 9, 1}, {kind, 5, 1}});
        String call = "act " + act + " of kind " + kind + " with " + x;
        c.due(call, y.act(3, act, x), due);
        for (int i = 0; i < ran.length; i++) {
            c.due(call + " body " + i, y.trace(i), ran[i]);
        }
        c.due(call + " bodies", y.count(6), ran.length);
    }

    private static void bodies() {
        c.says("hangs(..) and so on: the body of its KIND, or, if that has none, of the next KIND above that has one; "
            + "super.hangs(..): so from the KIND above the body's on; all that stands in a body is done from the left on");
        acts(0, 0, 1, 4, 10);
        acts(0, 1, 1, -1, 11, 10);
        acts(0, 2, 1, -2, 12, 11, 10);
        acts(1, 0, 1, 4, 10);
        acts(1, 1, 1, -1 ^ 6, 20, 11, 10);
        acts(1, 2, 1, (-1 ^ 6) * 2, 12, 20, 11, 10);
        acts(2, 0, 1, 6, 30, 10);
        acts(2, 1, 1, 1, 11, 30, 10);
        acts(2, 2, 1, 2, 12, 11, 30, 10);
        acts(3, 0, 1, 4, 10);
        acts(3, 1, 1, -1, 11, 10);
        acts(3, 2, 1, -3, 40, 12, 11, 10, 11, 10);
        acts(4, 0, 1, -4, 50, 10);
        acts(4, 1, 1, -10 ^ 6, 51, 20, 11, 50, 10);
        acts(4, 2, 1, (-10 ^ 6) * 2, 12, 51, 20, 11, 50, 10);
        acts(5, 0, 1, 6, 30, 10);
        acts(5, 1, 1, 1, 11, 30, 10);
        acts(5, 2, 1, (-6 + 3 - 5) * 2, 60, 12, 11, 30, 10);
        acts(6, 0, 1, 4 ^ 5, 71, 10);
        acts(6, 1, 1, (4 ^ 5) - 5 + 5, 70, 11, 71, 10, 10);
        acts(6, 2, 2, (5 ^ 5) * 2 + (4 ^ 5), 40, 12, 70, 11, 71, 10, 10, 70, 11, 71, 10, 10);
    }

    private static void wrapping() {
        c.says("ACTS of a SAINT with x (wrapping): 0 hangs, 1 hums, 2 tells; i its number");
        acts(0, 0, MAX, MIN + 2, 10);
        acts(0, 0, MAX - 3, MAX, 10);
        acts(0, 1, MIN, MAX - 1, 11, 10);
        acts(0, 2, MAX, MAX * 2 - 4, 12, 11, 10);
        acts(1, 1, MIN, (MAX - 1) ^ 6, 20, 11, 10);
        acts(2, 0, MAX, MAX - 2 + 3, 30, 10);
        acts(2, 0, 1431655766, 5, 30, 10);
        acts(3, 2, MIN, -4 - 1, 40, 12, 11, 10, 11, 10);
        acts(4, 0, MIN, MAX - 2, 50, 10);
        acts(4, 0, MIN - 3, MIN, 50, 10);
        acts(4, 1, MAX, (MAX - 7) ^ 6, 51, 20, 11, 50, 10);
        acts(5, 2, MIN, (MIN - 9 + 3 - 5) * 2, 60, 12, 11, 30, 10);
        acts(6, 0, MAX, (MIN + 2) ^ 5, 71, 10);
        acts(6, 1, MIN, ((MIN + 3) ^ 5) - 5 + 5, 70, 11, 71, 10, 10);
    }

    private static void trace() {
        c.says("THE TRACE: the numbers of the bodies that ran in the latest act(), as they began; the first 20 are kept");
        LoofahSaints x = Check.with(new int[][] {{6, 0, 1}, {0, 0, 1}});
        c.due("none at first", x.trace(0), -1);
        c.due("none at first", x.count(6), 0);
        x.act(0, 2, 0);
        int[] longest = {40, 12, 70, 11, 71, 10, 10, 70, 11, 71, 10, 10};
        for (int i = 0; i < longest.length; i++) {
            c.due("the longest " + i, x.trace(i), longest[i]);
        }
        for (int i = longest.length; i <= 20; i++) {
            c.due("behind the longest " + i, x.trace(i), -1);
        }
        x.act(1, 1, 0);
        c.due("the latest alone", x.trace(0), 11);
        c.due("the latest alone", x.trace(1), 10);
        c.due("the latest alone", x.trace(2), -1);
        x.pass(1);
        x.image();
        x.undo();
        c.due("other calls let it be", x.count(6), 2);
    }

    private static void act() {
        c.says("An ACT (0 hangs, 1 hums, 2 tells) of a SAINT with x. 0, and no TRACE then: no such SAINT, act");
        int[][] wrong = {{-1, 0}, {2, 0}, {6, 0}, {MIN, 0}, {MAX, 0}, {0, -1}, {0, 3}, {0, MIN}, {0, MAX}, {2, 3}};
        for (int[] w : wrong) {
            LoofahSaints x = Check.with(new int[][] {{0, 0, 1}, {0, 0, 1}});
            c.due("the first saint", x.act(0, 0, 7), 7);
            c.due("the last saint", x.act(1, 2, 7), 16);
            c.due("three ran", x.count(6), 3);
            c.due("act(" + w[0] + ", " + w[1] + ")", x.act(w[0], w[1], 7), 0);
            c.due("none ran", x.count(6), 0);
            c.due("no trace", x.trace(0), -1);
        }
        c.due("no saint at all", new LoofahSaints().act(0, 0, 7), 0);
    }

    private static void traceOf() {
        c.says("THE TRACE's i-th body. NONE");
        LoofahSaints x = Check.with(new int[][] {{0, 0, 1}});
        x.act(0, 2, 0);
        c.due("the first", x.trace(0), 12);
        c.due("the last", x.trace(2), 10);
        for (int i : new int[] {-1, 3, 19, 20, 21, MIN, MAX}) {
            c.due("i " + i, x.trace(i), -1);
        }
    }

    private static void taken() {
        c.says("A SAINT taken for one of KIND k (0 .. 6), or one under that: its KIND. BAD: k; NOTHING: no such SAINT; "
            + "CAST");
        LoofahSaints x = Check.with(new int[][] {{6, 0, 0}, {3, 0, 0}});
        c.due("for itself", x.taken(0, 6), 6);
        c.due("for the one above", x.taken(0, 3), 6);
        c.due("for the one above all", x.taken(0, 0), 6);
        c.due("for one under it", x.taken(1, 6), -12);
        c.due("for one beside it", x.taken(1, 2), -12);
        c.due("for one under one beside it", x.taken(0, 5), -12);
        for (int k : new int[] {-1, 7, MIN, MAX}) {
            c.due("k " + k, x.taken(0, k), -2);
            c.due("k ahead of nothing", x.taken(2, k), -2);
        }
        for (int saint : new int[] {-1, 2, 6, MIN, MAX}) {
            c.due("saint " + saint, x.taken(saint, 0), -11);
            c.due("nothing ahead of cast", x.taken(saint, 6), -11);
        }
    }

    private static void count() {
        c.says("How many: 0 SAINTS, 1 ORDERS, 2 SEEN, 3 of the PLAN, 4 of the BOOK, 5 bytes of THE TEXT, 6 bodies that "
            + "ran in the latest act() (all, kept or not). BAD");
        LoofahSaints x = new LoofahSaints();
        for (int what = 0; what < 7; what++) {
            c.due("at first " + what, x.count(what), 0);
        }
        for (int what : new int[] {-1, 7, MIN, MAX}) {
            c.due("what " + what, x.count(what), -2);
        }
        for (int i = 0; i < 9; i++) {
            x.saint(6, 0, 0);
            Check.order(x, "wear " + i);
            x.see(0, 0, 0);
            x.plan(0, 0);
            x.book(0, 0);
        }
        x.act(0, 2, 0);
        int[] full = {6, 6, 5, 8, 8, 18, 12};
        for (int what = 0; what < 7; what++) {
            c.due("full " + what, x.count(what), full[what]);
        }
        for (int i = 0; i < 100; i++) {
            x.feed('a');
        }
        c.due("a hundred bytes", x.count(5), 100);
    }
}
