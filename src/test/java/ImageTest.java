/** Promises 25 to 27, and JUDGED, THE IMAGE of the Terms. */
public final class ImageTest {
    private static final Check c = new Check();

    public static void main(String[] args) {
        judge();
        judgeRefuses();
        image();
        undoSaints();
        undoTold();
        undoOrder();
        notOfTheImage();
        c.end();
    }

    private static void judge() {
        LoofahSaints x = Check.with(new int[0][], 5, 6, 7, 4095);
        c.due("holds nothing", x.judge(0, 0), 100);
        x.tape(0, 1, 6);
        c.due("the first is otherwise", x.judge(0, 0), 0);
        x.item(0, 1, 5);
        x.item(0, 2, 6);
        x.item(0, 3, 7);
        x.item(0, 4, 4095);
        c.due("none", x.judge(0, 1), -5);
        c.due("from 0", x.judge(0, 0), 0);
        c.due("from 2", x.judge(0, 2), 0);
        c.due("below 0", x.judge(0, -1), 100);
        c.due("at the end", x.judge(0, 6), 100);
        c.due("beyond", x.judge(0, 7), 100);
        c.due("min", x.judge(0, Integer.MIN_VALUE), 100);
        c.due("max", x.judge(0, Integer.MAX_VALUE), 100);
        x.item(0, 4, 4094);
        c.due("the last", x.judge(0, 1), 3);
        x.item(0, 3, 8);
        c.due("the third", x.judge(0, 1), 2);
        x.item(0, 5, 5);
        c.due("one, then the end", x.judge(0, 5), 101);
        x.item(0, 4, 5);
        x.item(0, 5, 6);
        c.due("two, then the end", x.judge(0, 4), 102);
        x.item(0, 3, 5);
        x.item(0, 4, 6);
        x.item(0, 5, 7);
        c.due("three, then the end", x.judge(0, 3), 103);
        x.item(0, 5, 0);
        c.due("otherwise ahead of the end", x.judge(0, 3), 2);
        x.novice(2, 0, 0);
        c.due("as it is now", x.judge(0, 3), 103);
    }

    private static void judgeRefuses() {
        LoofahSaints x = new LoofahSaints();
        c.due("tape 6", x.judge(6, 0), -1);
        c.due("tape -1", x.judge(-1, -1), -1);
        for (int sort = 0; sort <= 4; sort++) {
            x.tape(5, sort, 4);
            c.due("sort " + sort, x.judge(5, 0), sort == 1 ? -5 : -12);
            c.due("sort ahead of place " + sort, x.judge(5, -1), sort == 1 ? 100 : -12);
        }
        x.tape(5, 1, 0);
        c.due("a row of none", x.judge(5, 0), 100);
        x.tape(5, 2, 0);
        c.due("a row of no ints", x.judge(5, 0), -12);
        x.tape(5, -1, 0);
        c.due("nothing again", x.judge(5, 0), 100);
    }

    private static void image() {
        LoofahSaints x = Check.with(new int[][] {{6, 4, 0x0FF}, {4, 9, 0xFFF}}, 0xFFF, 0x00F);
        c.due("none", x.undo(), -3);
        x.row(0, 2, 7);
        x.peg(1, 0);
        x.novice(3, 1, 0x100);
        x.see(0, 0, 0x001);
        x.plan(1, 10);
        x.book(0, 0xFFF);
        x.pass(2);
        int[] was = look(x);
        c.due("image", x.image(), 2);
        x.row(0, 2, 1);
        x.peg(0, 1);
        x.peg(1, -1);
        x.set(0, 0, 1);
        x.set(1, 1, 77);
        x.novice(0, 0, 1);
        x.novice(1, 1, 1);
        x.novice(3, 1, 0);
        x.see(-1, 0, 0);
        x.plan(0, 0);
        x.book(1, 1);
        x.pass(3);
        x.saint(0, 0, 0);
        c.due("undo", x.undo(), 2);
        int[] now = look(x);
        for (int i = 0; i < was.length; i++) {
            c.due("look " + i, now[i], was[i]);
        }
        c.due("as wet as it was", x.of(1, 4), 1);
        x.novice(0, 0, 2);
        x.set(0, 1, 50);
        c.due("undo again", x.undo(), 2);
        now = look(x);
        for (int i = 0; i < was.length; i++) {
            c.due("look again " + i, now[i], was[i]);
        }
        x.set(0, 1, 33);
        c.due("a newer one", x.image(), 2);
        x.set(0, 1, 44);
        x.undo();
        c.due("is what comes again", x.of(0, 3), 33);
    }

    /** All that THE IMAGE keeps, but for the rows of a PLAN and what only HOLED tells of SEEN. */
    private static int[] look(LoofahSaints x) {
        int[] all = new int[60];
        int at = 0;
        for (int s = 0; s < 2; s++) {
            for (int what = 0; what < 14; what++) {
                all[at++] = x.of(s, what);
            }
            all[at++] = x.holed(s, 0);
        }
        for (int n = 0; n < 4; n++) {
            all[at++] = x.told(10 + n);
            all[at++] = x.told(20 + n);
        }
        for (int what = 0; what < 5; what++) {
            all[at++] = what == 1 ? 0 : x.count(what);
        }
        all[at++] = x.told(0);
        all[at++] = x.looked();
        all[at++] = x.ends(0);
        all[at++] = x.ends(1);
        return all;
    }

    private static void undoSaints() {
        LoofahSaints x = new LoofahSaints();
        c.due("image of none", x.image(), 0);
        x.saint(6, 9, 4095);
        x.row(0, 0, 9);
        x.set(0, 1, 99);
        x.peg(0, 2);
        x.see(0, 0, 5);
        x.plan(2, 0);
        c.due("undo", x.undo(), 0);
        c.due("no saint", x.of(0, 0), -10001);
        c.due("nothing seen", x.count(2), 0);
        c.due("no plan", x.count(3), 0);
        c.due("a saint anew", x.saint(6, 1, 2), 0);
        c.due("its wear", x.of(0, 3), 0);
        c.due("its wet", x.of(0, 4), 0);
        c.due("its peg", x.of(0, 5), -5);
        c.due("its row", x.row(0, 0, 1), 0);
        x.use(0, 0);
        x.undo();
        x.saint(4, 0, 0);
        c.due("dry", x.of(0, 4), 0);
        LoofahSaints y = Check.with(new int[][] {{0, 0, 1}, {0, 0, 1}, {0, 0, 1}});
        y.image();
        y.saint(1, 0, 1);
        c.due("three", y.undo(), 3);
        c.due("the fourth again", y.saint(2, 0, 1), 3);
        c.due("its kind", y.of(3, 0), 2);
    }

    private static void undoTold() {
        LoofahSaints x = Check.with(new int[][] {{0, 0, 1}, {0, 0, 2}, {0, 0, 4}}, 7, 7, 7, 7);
        for (int i = 0; i < 5; i++) {
            x.see(i % 3, i % 4, 1 << i % 3);
        }
        for (int i = 0; i < 8; i++) {
            x.plan(1, i % 3 * 10 + i % 4);
            x.book(i % 4, i < 7 ? 7 : 0);
        }
        x.image();
        x.see(-1, 0, 0);
        x.plan(-1, 0);
        x.book(-1, 0);
        for (int i = 0; i < 8; i++) {
            x.see(2 - i % 3, 3, 0);
            x.plan(3, 0);
            x.book(1, 1);
        }
        x.undo();
        for (int s = 0; s < 3; s++) {
            c.due("seen", x.holed(s, 0), 512);
            c.due("seen", x.holed(s, 1), 1 << s);
        }
        c.due("plan", x.ends(0), 12 - 8);
        c.due("plan", x.ends(1), 12 + 12 + 9);
        c.due("book", x.looked(), 7);
    }

    private static void undoOrder() {
        LoofahSaints x = Check.with(new int[][] {{0, 0, 1}});
        x.image();
        Check.order(x, "wear 20;scrub 1 p=0");
        c.due("none held", x.undo(), 1);
        c.due("hard", x.told(1), 6);
        c.due("grit", x.of(0, 6), 3);
        c.due("it is there still", x.count(1), 1);
        Check.order(x, "wear 30;scrub 2 p=0");
        x.image();
        Check.order(x, "wear 40;scrub 3 p=0");
        c.due("hard", x.told(1), 40);
        x.undo();
        c.due("the one that held", x.told(1), 30);
        c.due("grit", x.of(0, 6), 5);
        c.due("all are there", x.count(1), 3);
        c.due("the next", Check.order(x, "wear 50"), 3);
        c.due("holds", x.told(1), 50);
        x.undo();
        c.due("a fault", Check.order(x, "wear"), -14);
        c.due("lets it hold", x.told(1), 30);
    }

    private static void notOfTheImage() {
        LoofahSaints x = Check.with(new int[][] {{0, 0, 1}});
        Check.text(x, "wear");
        x.tape(0, 0, 2);
        x.act(0, 2, 1);
        x.image();
        Check.text(x, " 1");
        x.item(0, 0, 5);
        x.tape(1, 3, 1);
        x.act(0, 0, 1);
        x.undo();
        c.due("the text", x.count(5), 6);
        c.due("a tape", x.read(0, 0), 5);
        c.due("another", x.read(1, 0), 0);
        c.due("the trace", x.count(6), 1);
        c.due("the trace", x.trace(0), 10);
    }
}
