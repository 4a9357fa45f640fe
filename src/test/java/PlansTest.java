/** Promises 21 to 24, and A PLAN, ENDS, A BOOK, LOOKED at of the Terms. */
public final class PlansTest {
    private static final Check c = new Check();
    private static final int MIN = Integer.MIN_VALUE, MAX = Integer.MAX_VALUE;

    public static void main(String[] args) {
        plan();
        ends();
        endsOfAny();
        endsByDays();
        book();
        looked();
        c.end();
    }

    private static void plan() {
        LoofahSaints x = Check.with(new int[][] {{0, 0, 1}, {0, 0, 2}}, 3);
        c.due("what 4", x.plan(4, 0), -1);
        c.due("what -2", x.plan(-2, 0), -1);
        c.due("use saint 2", x.plan(1, 20), -1);
        c.due("use novice 4", x.plan(1, 14), -1);
        c.due("use -1", x.plan(1, -1), -1);
        c.due("use -10", x.plan(1, -10), -1);
        c.due("use min", x.plan(1, MIN), -1);
        c.due("use max", x.plan(1, MAX), -1);
        c.due("new 2", x.plan(2, 2), -1);
        c.due("new -1", x.plan(2, -1), -1);
        c.due("unpeg 2", x.plan(3, 2), -1);
        c.due("unpeg 10", x.plan(3, 10), -1);
        c.due("none is there", x.count(3), 0);
        c.due("a day", x.plan(0, MIN), 1);
        c.due("use", x.plan(1, 3), 2);
        c.due("use", x.plan(1, 13), 3);
        c.due("new", x.plan(2, 1), 4);
        c.due("unpeg", x.plan(3, 0), 5);
        x.plan(0, 0);
        x.plan(0, 0);
        c.due("the eighth", x.plan(0, 99), 8);
        c.due("full", x.plan(0, 0), -4);
        c.due("none ahead of full", x.plan(2, 2), -1);
        c.due("count", x.count(3), 8);
        c.due("empty", x.plan(-1, MIN), 0);
        c.due("count", x.count(3), 0);
        c.due("none for no saints", new LoofahSaints().plan(1, 0), -1);
    }

    private static void ends() {
        LoofahSaints x = Check.with(new int[][] {{0, 0, 0xFFF}, {0, 0, 0x0F0}}, 0xFFF, 0xFFF);
        c.due("no plan", x.ends(0), 24);
        c.due("no plan", x.ends(1), 0);
        x.plan(1, 1);
        c.due("used on 1", x.ends(0), 21);
        c.due("wear", x.ends(1), 6);
        x.plan(1, 11);
        c.due("and 1, behind it", x.ends(0), 18);
        c.due("wear", x.ends(1), 12);
        x.plan(1, 0);
        c.due("wet", x.ends(1), 15);
        x.plan(2, 0);
        c.due("new", x.ends(1), 6);
        x.plan(1, 0);
        c.due("new, but wet", x.ends(1), 9);
        c.due("on all", x.ends(0), 12);
        c.due("what 2", x.ends(2), -1);
        c.due("what -1", x.ends(-1), -1);
        c.due("nothing changed", x.told(2) + x.of(0, 3) + x.of(0, 4), 24);
        x.set(0, 1, 99);
        c.due("a thread is not used till it is new", x.ends(0), 18);
        c.due("wear", x.ends(1), 6 + 6);
    }

    private static void endsOfAny() {
        int[][] all = {{0, 0, 1}, {0, 0, 3}, {0, 0, 7}, {1, 1, 15}, {1, 2, 31}, {1, 3, 63}};
        for (int s = 0; s < 6; s++) {
            for (int n = 0; n < 4; n++) {
                LoofahSaints x = Check.with(all);
                x.novice(n, 0, 0xFFF);
                for (int i = 0; i < 6; i++) {
                    x.set(i, 1, 1 << i);
                }
                c.due("use", x.plan(1, 10 * s + n), 1);
                c.due("saint " + s + " on " + n, x.ends(0), 11 - s);
                c.due("wear of all", x.ends(1), 63 + 6);
                x.plan(2, s);
                c.due("wear of all but " + s, x.ends(1), 63 - (1 << s));
            }
        }
        c.due("novice 9", Check.with(all).plan(1, 49), -1);
        c.due("saint 6", Check.with(all).plan(1, 60), -1);
        c.due("the last", Check.with(all).plan(1, 53), 1);
    }

    private static void endsByDays() {
        LoofahSaints x = Check.with(new int[][] {{0, 0, 0xFFF}, {0, 0, 0xFFF}}, 0xFFF, 0xFFF);
        x.peg(0, 0);
        x.peg(1, 1);
        x.novice(2, 1, 1);
        x.plan(0, 0);
        c.due("a day", x.ends(0), 19);
        c.due("wear", x.ends(1), 12);
        x.plan(3, 0);
        x.plan(0, 0);
        c.due("a day of one", x.ends(0), 16);
        c.due("wear", x.ends(1), 15);
        x.plan(1, 0);
        c.due("dry again", x.ends(1), 21);
        c.due("the peg stays", x.of(0, 5), 0);
        c.due("the day stays", x.told(0), 0);
        x.novice(0, 0, 0);
        c.due("from how all is", x.ends(0), 12 - 6 + 1);
    }

    private static void book() {
        LoofahSaints x = new LoofahSaints();
        c.due("novice 4", x.book(4, 9999), -1);
        c.due("novice -2", x.book(-2, 0), -1);
        c.due("doctrines -1", x.book(0, -1), -2);
        c.due("doctrines 4096", x.book(0, 4096), -2);
        for (int i = 1; i <= 8; i++) {
            c.due("book " + i, x.book(i % 4, 4096 - i), i);
        }
        c.due("full", x.book(0, 0), -4);
        c.due("bad ahead of full", x.book(0, 4096), -2);
        c.due("none ahead of full", x.book(4, 0), -1);
        c.due("count", x.count(4), 8);
        c.due("empty", x.book(-1, 9999), 0);
        c.due("count", x.count(4), 0);
    }

    private static void looked() {
        LoofahSaints x = Check.with(new int[0][], 5, 6, 7, 8);
        c.due("no rows", x.looked(), -5);
        x.book(3, 8);
        x.book(0, 5);
        c.due("as it is", x.looked(), -5);
        x.book(2, 6);
        x.book(1, 0);
        c.due("row 2", x.looked(), 2);
        x.novice(3, 0, 9);
        c.due("row 0", x.looked(), 0);
        x.novice(3, 0, 8);
        x.novice(2, 0, 6);
        c.due("row 3", x.looked(), 3);
        x.novice(1, 0, 0);
        c.due("none", x.looked(), -5);
        x.book(-1, 0);
        x.novice(0, 0, 0);
        c.due("empty", x.looked(), -5);
    }
}
