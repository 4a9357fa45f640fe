/** Promises 16 to 20, and SEEN, HOLED, CAN, ODDS, MEAN of the Terms. */
public final class SeenTest {
    private static final Check c = new Check();

    public static void main(String[] args) {
        see();
        holed();
        holedOfHeretic();
        holedOfKinds();
        can();
        odds();
        mean();
        c.end();
    }

    private static void see() {
        LoofahSaints x = Check.with(new int[][] {{0, 0, 1}, {0, 0, 2}}, 3);
        c.due("saint 2", x.see(2, 0, 9999), -1);
        c.due("saint -2", x.see(-2, 0, 0), -1);
        c.due("novice 4", x.see(0, 4, 9999), -1);
        c.due("novice -1", x.see(0, -1, 0), -1);
        c.due("doctrines 4096", x.see(0, 0, 4096), -2);
        c.due("doctrines -1", x.see(0, 0, -1), -2);
        for (int i = 1; i <= 5; i++) {
            c.due("see " + i, x.see(i % 2, 0, i), i);
        }
        c.due("full", x.see(0, 0, 0), -4);
        c.due("bad ahead of full", x.see(0, 0, 4096), -2);
        c.due("none ahead of full", x.see(2, 0, 0), -1);
        c.due("count", x.count(2), 5);
        c.due("away", x.see(-1, 99, 9999), 0);
        c.due("count", x.count(2), 0);
        c.due("away again", x.see(-1, 0, 0), 0);
        c.due("see", x.see(0, 0, 4095), 1);
    }

    private static void holed() {
        LoofahSaints x = Check.with(new int[][] {{0, 0, 1}, {0, 0, 2}}, 0x00F, 0xFF0);
        c.due("nothing seen", x.holed(0, 0), 4096);
        c.due("the least", x.holed(0, 1), 0);
        x.see(0, 0, 0x005);
        c.due("2 has no hole, 8 neither", x.holed(0, 0), 256);
        c.due("the least", x.holed(0, 1), 5);
        c.due("another's is not seen", x.holed(1, 0), 4096);
        // three off: behind the third all may be
        x.see(0, 1, 0x0B0);
        c.due("both", x.holed(0, 0), 16);
        c.due("the least", x.holed(0, 1), 0x0B5);
        x.see(1, 0, 0x00F);
        c.due("four by a grit of 3", x.holed(1, 0), 0);
        c.due("none is the least", x.holed(1, 1), -5);
        c.due("the other's do not matter", x.holed(0, 0), 16);
        c.due("what 2", x.holed(0, 2), -1);
        c.due("what -1", x.holed(0, -1), -1);
        c.due("saint 2", x.holed(2, 0), -1);
        c.due("saint -1", x.holed(-1, 1), -1);
        c.due("its holes are not asked, and stay", x.of(0, 2), 1);
        x.novice(0, 0, 0x008);
        c.due("as it is today", x.holed(0, 0), 0);
        x.see(-1, 0, 0);
        x.set(0, 1, 99);
        x.see(0, 0, 0);
        c.due("a thread takes none", x.holed(0, 0), 4096);
        x.see(0, 1, 0x010);
        c.due("a thread takes nothing", x.holed(0, 0), 0);
    }

    private static void holedOfHeretic() {
        LoofahSaints x = Check.with(new int[][] {{3, 0, 1}, {6, 0, 1}}, 0x00F);
        for (int s = 0; s < 2; s++) {
            x.see(s, 0, 0x00A);
            c.due("1, 4 are holes", x.holed(s, 0), 256);
            c.due("the least", x.holed(s, 1), 5);
        }
        x.row(1, 0, 2);
        x.see(1, 0, 0x00A);
        c.due("the row lets more off", x.holed(1, 1), 5);
        x.novice(0, 0, 0x0FF);
        c.due("3 of 8: two are too few", x.holed(0, 0), 4096 >> 8);
    }

    private static void holedOfKinds() {
        LoofahSaints x = Check.with(new int[][] {{4, 9, 1}, {2, 0, 1}}, 0xFFF);
        x.see(0, 0, 0x001);
        c.due("a dry pith takes none", x.holed(0, 0), 0);
        x.use(0, 3);
        c.due("a wet one takes 12", x.holed(0, 0), 1);
        x.see(1, 0, 0x004);
        c.due("an abbot takes 1", x.holed(1, 0), 512);
        Check.order(x, "soft 2 p=1");
        c.due("none by 0", x.holed(1, 0), 0);
        x.see(-1, 0, 0);
        x.see(1, 0, 0);
        c.due("all by 0", x.holed(1, 0), 4096);
    }

    private static void can() {
        LoofahSaints x = Check.with(new int[][] {{1, 4, 0xFFF}, {0, 4, 0xFFF}, {1, 4, 0xFFF}}, 0x3FF, 0x0FF);
        c.due("nothing seen", x.can(0, 0), 10);
        c.due("the least", x.can(0, 1), 0);
        x.see(0, 0, 0x0FF);
        c.due("3 and 5", x.can(0, 0), 1);
        c.due("the least", x.can(0, 1), 5);
        x.see(2, 1, 0x0FF);
        c.due("5 and more", x.can(2, 0), 5);
        c.due("the least", x.can(2, 1), 5);
        x.see(2, 0, 0x3FF);
        c.due("7 and more", x.can(2, 0), 3);
        c.due("the least", x.can(2, 1), 7);
        x.see(1, 0, 0x007);
        c.due("a saint by any", x.can(1, 0), 10);
        Check.order(x, "soft 1 v<3;scrub 2 v=9");
        c.due("by the order, too", x.can(1, 0), 6);
        c.due("the least", x.can(1, 1), 3);
        x.see(1, 0, 0);
        c.due("none", x.can(1, 0), 0);
        c.due("the least of none", x.can(1, 1), -5);
        c.due("what 2", x.can(0, 2), -1);
        c.due("what -1", x.can(0, -1), -1);
        c.due("saint 3", x.can(3, 0), -1);
        c.due("saint -1", x.can(-1, 0), -1);
        c.due("v stays", x.of(0, 1), 4);
        LoofahSaints y = Check.with(new int[][] {{0, 0, 1}, {0, 0, 1}}, 1);
        y.see(1, 0, 1);
        Check.order(y, "soft 9 p=0");
        c.due("p is its own number", y.can(1, 0), 10);
        c.due("p is its own number", y.holed(1, 0), 2048);
    }

    private static void fraction(LoofahSaints x, int doctrine, int novice, long above, long below) {
        c.due("odds " + doctrine + " " + novice + " above", x.odds(doctrine, novice, 0), above);
        c.due("odds " + doctrine + " " + novice + " below", x.odds(doctrine, novice, 1), below);
    }

    private static void odds() {
        long no = LoofahSaints.NO;
        LoofahSaints x = new LoofahSaints();
        c.due("no saints", x.odds(0, 0, 0), no);
        c.due("no saints", x.odds(0, 0, 1), no);
        x = Check.with(new int[][] {{0, 0, 1}, {0, 0, 3}, {0, 0, 1}, {3, 0, 3}}, 0x007, 0x006);
        fraction(x, 0, 0, 3, 4);
        fraction(x, 1, 0, 1, 4);
        fraction(x, 2, 0, 1, 4);
        fraction(x, 3, 0, 1, 1);
        fraction(x, 0, 1, 1, 1);
        fraction(x, 11, 3, 1, 1);
        x.set(0, 1, 99);
        fraction(x, 0, 0, 1, 2);
        fraction(x, 0, 1, 1, 1);
        x.set(1, 1, 99);
        x.set(2, 1, 99);
        x.set(3, 1, 99);
        fraction(x, 0, 0, 0, 1);
        c.due("doctrine 12", x.odds(12, 0, 0), no);
        c.due("doctrine -1", x.odds(-1, 0, 0), no);
        c.due("novice 4", x.odds(0, 4, 0), no);
        c.due("novice -1", x.odds(0, -1, 0), no);
        c.due("part 2", x.odds(0, 0, 2), no);
        c.due("part -1", x.odds(0, 0, -1), no);
        LoofahSaints z = Check.with(new int[][] {{0, 0, 1}}, 3);
        fraction(z, 0, 0, 1, 1);
        fraction(z, 1, 0, 0, 1);
        z.set(0, 1, 7);
        c.due("mean of one", z.mean(0, 0), 7);
        c.due("mean of one", z.mean(0, 1), 1);
        LoofahSaints y = Check.with(new int[][] {{0, 0, 8}, {0, 0, 1}, {0, 0, 1}, {0, 0, 1}, {0, 0, 8}, {0, 0, 8}}, 8);
        y.set(0, 1, 99);
        fraction(y, 3, 0, 1, 3);
        c.due("nothing changed", y.told(2) + y.of(4, 3), 1);
    }

    private static void mean() {
        long no = LoofahSaints.NO;
        LoofahSaints x = new LoofahSaints();
        c.due("none", x.mean(0, 0), no);
        c.due("none", x.mean(0, 1), no);
        x = Check.with(new int[][] {{0, 0, 1}, {0, 0, 1}, {0, 0, 1}, {0, 0, 1}});
        c.due("0 above", x.mean(60, 0), 0);
        c.due("0 below", x.mean(60, 1), 1);
        x.set(1, 1, 5);
        x.peg(0, 0);
        c.due("5 above", x.mean(0, 0), 5);
        c.due("by 4", x.mean(0, 1), 4);
        c.due("11 by 4", x.mean(1, 0), 11);
        c.due("14 by 4", x.mean(2, 0), 7);
        c.due("14 by 4", x.mean(2, 1), 2);
        c.due("104 by 4", x.mean(60, 0), 26);
        c.due("104 by 4", x.mean(60, 1), 1);
        c.due("61", x.mean(61, 0), no);
        c.due("-1", x.mean(-1, 0), no);
        c.due("part 2", x.mean(1, 2), no);
        c.due("part -1", x.mean(1, -1), no);
        c.due("nothing changed", x.told(0) + x.of(0, 3), 0);
    }
}
