/** Promises 14 and 15, and SHARED, SCRUBBED, DEAR of the Terms. */
public final class SharingTest {
    private static final Check c = new Check();

    public static void main(String[] args) {
        shared();
        firstOfSeveral();
        sharedAll();
        threads();
        dear();
        scrubbed();
        scrubbedOfKinds();
        dearOfMany();
        scrubbedByLast();
        fewerThanBefore();
        c.end();
    }

    private static void givenTo(LoofahSaints x, int... due) {
        for (int s = 0; s < due.length; s++) {
            c.due("given to " + s, x.shared(10 + s), due[s]);
        }
    }

    private static void shared() {
        // each takes 3 at most
        LoofahSaints x = Check.with(new int[][] {{0, 0, 0xFFF}, {0, 0, 0x001}}, 0x001, 0x003, 0x00F);
        c.due("shared", x.shared(0), 4);
        givenTo(x, 2, 0);
        c.due("none 12", x.shared(12), -1);
        c.due("none 1", x.shared(1), -1);
        c.due("none 9", x.shared(9), -1);
        c.due("none -1", x.shared(-1), -1);
        c.due("none 16", x.shared(16), -1);
        c.due("none min", x.shared(Integer.MIN_VALUE), -1);
        c.due("nothing changed", x.told(2), 7);
        LoofahSaints y = new LoofahSaints();
        c.due("no saints", y.shared(0), 0);
        c.due("no saint 0", y.shared(10), -1);
    }

    private static void firstOfSeveral() {
        LoofahSaints x = Check.with(new int[][] {{0, 0, 0xFFF}, {0, 0, 0xFFF}});
        c.due("nothing to take", x.shared(0), 0);
        givenTo(x, 0, 1);
        LoofahSaints y = Check.with(new int[][] {{0, 0, 0}, {0, 0, 0xFFF}}, 0, 1, 0, 0);
        c.due("one", y.shared(0), 1);
        givenTo(y, 0, 1);
        LoofahSaints z = Check.with(new int[][] {{0, 0, 0}, {0, 0, 0xFFF}}, 1, 0, 0, 1);
        c.due("one", z.shared(0), 1);
        givenTo(z, 0, 3);
        LoofahSaints w = Check.with(new int[][] {{0, 0, 0}, {0, 0, 3}, {0, 0, 1}}, 3, 1);
        c.due("three", w.shared(0), 3);
        givenTo(w, 2, 0, 1);
    }

    private static void sharedAll() {
        // SAINT n + 2 alone can take of NOVICE n: the first two have none, as four novices are given
        int[][] all = {{0, 0, 0}, {0, 0, 0}, {0, 0, 1}, {0, 0, 2}, {0, 0, 4}, {0, 0, 8}};
        LoofahSaints x = Check.with(all, 1, 2, 4, 8);
        c.due("four", x.shared(0), 4);
        givenTo(x, -5, -5, 0, 1, 2, 3);
        // by GRIT, too: a FOUNDER takes 12, an ABBOT 1
        LoofahSaints y = Check.with(new int[][] {{2, 9, 0xFFF}, {1, 9, 0xFFF}, {3, 0, 0xFFF}}, 0xFFF, 0xFFF);
        c.due("12 and 1", y.shared(0), 13);
        givenTo(y, 0, 1, 2);
    }

    private static void threads() {
        LoofahSaints x = Check.with(new int[][] {{0, 0, 0xFFF}, {0, 0, 0x003}, {0, 0, 0x001}}, 0x007);
        c.due("three", x.shared(0), 3);
        givenTo(x, 0, 1, 2);
        x.set(0, 1, 99);
        c.due("two", x.shared(0), 2);
        givenTo(x, -5, 0, 1);
        x.set(1, 1, 99);
        x.set(2, 1, 99);
        c.due("none", x.shared(0), 0);
        givenTo(x, -5, -5, -5);
        c.due("dear of threads", x.told(4), -5);
        c.due("how much of threads", x.told(5), -5);
    }

    private static void dear() {
        LoofahSaints x = Check.with(new int[][] {{0, 0, 0x001}, {0, 0, 0xFFF}, {0, 0, 0x001}}, 0x007, 0x001);
        c.due("shared", x.shared(0), 4);
        c.due("dear", x.told(4), 1);
        c.due("how much", x.told(5), 2 - 0);
        LoofahSaints y = Check.with(new int[][] {{0, 0, 1}, {0, 0, 1}}, 1);
        c.due("of several the first", y.told(4), 0);
        c.due("how much", y.told(5), 1);
        y.set(0, 1, 99);
        c.due("no thread", y.told(4), 1);
        c.due("how much", y.told(5), 0);
        LoofahSaints z = new LoofahSaints();
        c.due("no saints", z.told(4), -5);
        c.due("no saints", z.told(5), -5);
        LoofahSaints w = Check.with(new int[][] {{0, 0, 0x00F}, {0, 0, 0x0F0}, {0, 0, 0x00F}}, 0x007, 0x0F0, 0x001);
        c.due("7", w.shared(0), 7);
        c.due("dear", w.told(4), 1);
        c.due("without it", w.told(5), 4);
    }

    private static void dearOfMany() {
        int[][] all = {{0, 0, 0x003}, {0, 0, 0x008}, {0, 0, 0x070}, {0, 0, 0x010}, {0, 0, 0}, {0, 0, 0x100}};
        LoofahSaints x = Check.with(all, 0x003, 0x008, 0x070, 0x100);
        c.due("shared", x.shared(0), 7);
        c.due("0 and 2 alike", x.told(4), 0);
        c.due("5", x.told(5), 5);
        x.novice(0, 0, 0x001);
        c.due("1 is no dearer than 0, 2 is", x.told(4), 2);
        c.due("4", x.told(5), 4);
        x.set(3, 1, 99);
        c.due("now 2", x.told(4), 2);
        c.due("3", x.told(5), 3);
        x.set(2, 1, 99);
        c.due("the first of those by one", x.told(4), 0);
        c.due("2", x.told(5), 2);
        x.set(0, 1, 99);
        x.set(1, 1, 99);
        x.set(4, 1, 99);
        c.due("the last alone", x.told(4), 5);
        c.due("none without", x.told(5), 0);
        c.due("the last", x.shared(15), 3);
    }

    private static void scrubbedByLast() {
        int[][] all = {{0, 0, 1}, {0, 0, 2}, {0, 0, 4}, {0, 0, 0x038}, {0, 0, 0x1C0}, {0, 0, 0xE00}};
        LoofahSaints x = Check.with(all, 0, 0, 0, 0xFFF);
        c.due("3 by 3", x.scrubbed(3, 3, -1), 3);
        for (int k = 0; k < 3; k++) {
            c.due("the last ones", x.scrubbed(3, 3, k), 3 + k);
        }
        c.due("2", x.scrubbed(3, 2, -1), 6);
        c.due("1", x.scrubbed(3, 1, 0), 3);
    }

    private static void fewerThanBefore() {
        LoofahSaints x = Check.with(new int[][] {{0, 0, 0x001}}, 0x00F, 0xF00);
        x.image();
        x.saint(0, 0, 0xFFF);
        x.set(1, 1, 99);
        c.due("two", x.told(3), 2);
        x.undo();
        c.due("one", x.told(3), 0);
        x.saint(0, 0, 0xFFF);
        x.set(1, 1, 50);
        c.due("two", x.shared(0), 4);
        c.due("two", x.scrubbed(0, 2, -1), 0);
        c.due("two", x.mean(0, 0), 25);
        x.undo();
        c.due("one", x.shared(0), 1);
        c.due("one", x.scrubbed(0, 1, -1), 3);
        c.due("one", x.scrubbed(0, 1, 0), 0);
        c.due("one", x.mean(0, 0), 0);
        c.due("one", x.ends(1), 0);
        c.due("dear", x.told(4), 0);
        c.due("dear", x.told(5), 0);
    }

    private static void scrubbed() {
        LoofahSaints x = Check.with(new int[][] {{0, 0, 0x001}, {0, 0, 0xFFF}, {0, 0, 0x01F}, {0, 0, 0x001}}, 0x0FF);
        c.due("1: how much", x.scrubbed(0, 1, -1), 5);
        c.due("1: who", x.scrubbed(0, 1, 0), 1);
        c.due("1: beyond", x.scrubbed(0, 1, 1), -5);
        c.due("1: beyond", x.scrubbed(0, 1, 2), -5);
        // 2 ahead of 1 takes 1, 2, 4, and then 1 takes 8, 0x10, 0x20; 1 ahead of 2 takes less
        c.due("2: how much", x.scrubbed(0, 2, -1), 2);
        c.due("2: first", x.scrubbed(0, 2, 0), 2);
        c.due("2: second", x.scrubbed(0, 2, 1), 1);
        c.due("2: beyond", x.scrubbed(0, 2, 2), -5);
        // 0 takes 1, then 2 takes 2, 4, 8, then 1 takes 0x10, 0x20, 0x40
        c.due("3: how much", x.scrubbed(0, 3, -1), 1);
        c.due("3: first", x.scrubbed(0, 3, 0), 0);
        c.due("3: second", x.scrubbed(0, 3, 1), 2);
        c.due("3: third", x.scrubbed(0, 3, 2), 1);
        c.due("nothing there", x.scrubbed(1, 3, -1), 0);
        c.due("the first row", x.scrubbed(1, 3, 0), 0);
        c.due("the first row", x.scrubbed(1, 3, 1), 1);
        c.due("the first row", x.scrubbed(1, 3, 2), 2);
        c.due("novice 4", x.scrubbed(4, 0, 0), -1);
        c.due("novice -1", x.scrubbed(-1, 1, 0), -1);
        c.due("k -2", x.scrubbed(0, 1, -2), -1);
        c.due("k 3", x.scrubbed(0, 9, 3), -1);
        c.due("n 0", x.scrubbed(0, 0, 0), -2);
        c.due("n 4", x.scrubbed(0, 4, 2), -2);
        c.due("nothing changed", x.told(10) + x.of(0, 3) + x.of(1, 4), 0x0FF);
        LoofahSaints y = Check.with(new int[][] {{0, 0, 1}, {0, 0, 1}}, 1);
        c.due("as many as n", y.scrubbed(0, 2, 1), 1);
        c.due("fewer", y.scrubbed(0, 3, -1), -5);
        c.due("fewer", y.scrubbed(0, 3, 0), -5);
        c.due("bad ahead of fewer", y.scrubbed(0, 4, -1), -2);
    }

    private static void scrubbedOfKinds() {
        LoofahSaints x = Check.with(new int[][] {{0, 0, 0xFFF}, {1, 9, 0x0FF}, {3, 0, 0x0FF}}, 0xFFF);
        c.due("1", x.scrubbed(0, 1, -1), 4);
        c.due("1", x.scrubbed(0, 1, 0), 1);
        c.due("2", x.scrubbed(0, 2, -1), 1);
        c.due("2", x.scrubbed(0, 2, 0), 1);
        c.due("2", x.scrubbed(0, 2, 1), 0);
        c.due("3", x.scrubbed(0, 3, -1), 0);
        c.due("3", x.scrubbed(0, 3, 0), 1);
        c.due("3", x.scrubbed(0, 3, 1), 0);
        c.due("3", x.scrubbed(0, 3, 2), 2);
        x.set(1, 1, 99);
        c.due("a thread takes none", x.scrubbed(0, 1, -1), 9);
        c.due("a thread is in rows", x.scrubbed(0, 3, -1), 6);
        c.due("a thread is in rows", x.scrubbed(0, 3, 1), 1);
        x.set(0, 1, 99);
        x.set(2, 1, 99);
        c.due("all threads", x.scrubbed(0, 2, -1), 12);
        c.due("all threads", x.scrubbed(0, 2, 1), 1);
    }
}
