/** Promises 9 and 10, and AN ORDER, its FAULT, HARD and SUM of the Terms. */
public final class OrdersTest {
    private static final Check c = new Check();

    public static void main(String[] args) {
        feed();
        order();
        faults();
        nesting();
        clauses();
        tests();
        precedence();
        hard();
        sum();
        c.end();
    }

    private static void feed() {
        LoofahSaints x = new LoofahSaints();
        c.due("sign -1", x.feed(-1), -2);
        c.due("sign 128", x.feed(128), -2);
        c.due("sign 0", x.feed(0), 1);
        c.due("sign 127", x.feed(127), 2);
        for (int i = 3; i <= 100; i++) {
            c.due("feed " + i, x.feed('s'), i);
        }
        c.due("full", x.feed('s'), -4);
        c.due("bad ahead of full", x.feed(128), -2);
        c.due("count", x.count(5), 100);
        c.due("fault at 0", x.order(), -10);
        c.due("empty then", x.count(5), 0);
        c.due("feeds again", x.feed(1), 1);
    }

    private static void order() {
        LoofahSaints x = Check.with(new int[][] {{0, 0, 0}});
        c.due("no text", x.order(), -10);
        for (int i = 0; i < 6; i++) {
            c.due("order " + i, Check.order(x, "wear " + (10 + i)), i);
            c.due("empty", x.count(5), 0);
            c.due("holds", x.told(1), 10 + i);
            if (i < 5) c.due("fault holds none", Check.order(x, "wear 77;"), -18);
            c.due("the newest holds on", x.told(1), 10 + i);
            c.due("count", x.count(1), i + 1);
        }
        Check.text(x, "wear 1");
        c.due("full", x.order(), -4);
        c.due("text stays", x.count(5), 6);
        Check.text(x, "?");
        c.due("full ahead of fault", x.order(), -4);
        c.due("text stays, faulty", x.count(5), 7);
        c.due("holds still", x.told(1), 15);
    }

    private static void fault(String text, int place) {
        c.due("'" + text + "'", Check.order(new LoofahSaints(), text), -10 - place);
    }

    private static void stands(String text) {
        c.due("'" + text + "'", Check.order(new LoofahSaints(), text), 0);
    }

    private static void faults() {
        fault("x", 0);
        fault("S", 0);
        fault(" wear 1", 0);
        fault(";wear 1", 0);
        fault("s", 1);
        fault("st", 1);
        fault("sw", 1);
        fault("sc", 2);
        fault("sof", 3);
        fault("sofa", 3);
        fault("scrubs", 5);
        fault("w", 1);
        fault("wears", 4);
        fault("wear", 4);
        fault("wear ", 5);
        fault("wear  1", 5);
        fault("wear x", 5);
        fault("wear -1", 5);
        fault("wear 123", 7);
        fault("wear 1 ", 6);
        fault("wear 1x", 6);
        fault("wear 1;", 7);
        fault("wear 1;;", 7);
        fault("wear 1; wear 1", 7);
        fault("scrub 1", 7);
        fault("scrub 1;", 7);
        fault("scrub 1 ", 8);
        fault("scrub 1  p=1", 8);
        fault("scrub 12p", 8);
        fault("scrub 1 P=1", 8);
        fault("scrub 1 p", 9);
        fault("scrub 1 p!", 9);
        fault("scrub 1 p==1", 10);
        fault("scrub 1 p=", 10);
        fault("scrub 1 p= 1", 10);
        fault("scrub 1 p=123", 12);
        fault("scrub 1 p=1)", 11);
        fault("scrub 1 p=1 ", 11);
        fault("scrub 1 p=1&", 12);
        fault("scrub 1 p=1&&", 12);
        fault("scrub 1 p=1|;", 12);
        fault("scrub 1 p=1!", 11);
        fault("scrub 1 (p=1", 12);
        fault("scrub 1 (p=1;", 12);
        fault("scrub 1 ()", 9);
        fault("scrub 1 (p=1))", 13);
        fault("scrub 1 !", 9);
        fault("scrub 1 !;", 9);
        fault("soft 1 |p=1", 7);
        stands("wear 0");
        stands("wear 00");
        stands("scrub 99 p<99");
        stands("soft 1 k>0");
        stands("soft 01 !v=0|w<1&(t=1|d=9)");
    }

    private static void nesting() {
        stands("soft 1 ((((p=1))))");
        fault("soft 1 (((((p=1)))))", 11);
        stands("soft 1 !!!!p=1");
        fault("soft 1 !!!!!p=1", 11);
        fault("soft 1 !!!!(p=1)", 11);
        stands("soft 1 !(!(p=1))");
        fault("soft 1 !(!(!p=1))", 11);
        fault("soft 1 !(!((p=1)))", 11);
        stands("soft 1 !!!!p=1&!!!!p=1|((((p=1))))");
        stands("soft 1 (((!p=1&(p=1))))");
        fault("soft 1 (((!p=1&((p=1)))))", 16);
        fault("soft 1 ((((p=1&!p=1))))", 15);
    }

    private static void clauses() {
        StringBuilder ten = new StringBuilder("wear 0");
        for (int i = 1; i < 10; i++) {
            ten.append(";wear ").append(i);
        }
        stands(ten.toString());
        fault(ten + ";", 69);
        fault(ten + ";wear 1", 69);
        String hundred = "soft 1 " + "p=1|".repeat(23) + "p";
        c.due("100 bytes", hundred.length(), 100);
        fault(hundred, 100);
        stands("soft 1 p=12|" + "p=1|".repeat(21) + "p=12");
    }

    /** GRIT of SAINT 2 (HERETIC, v 7) on its third day, when it is WET and has WEAR 40. */
    private static int sumBy(String e) {
        LoofahSaints x = Check.with(new int[][] {{0, 0, 0}, {1, 0, 0}, {3, 7, 0}});
        x.pass(13);
        x.use(2, 0);
        x.set(2, 1, 49);
        c.due("'" + e + "'", Check.order(x, "scrub 20 " + e), 0);
        return x.of(2, 6);
    }

    private static void holds(String e, boolean due) {
        c.due(e, sumBy(e), due ? 23 : 3);
    }

    private static void tests() {
        String letters = "pkvwtd";
        int[] values = {2, 3, 7, 4, 1, 3};
        for (int i = 0; i < 6; i++) {
            for (int n : new int[] {0, values[i] - 1, values[i], values[i] + 1, 9, 99}) {
                holds(letters.charAt(i) + "<" + n, values[i] < n);
                holds(letters.charAt(i) + "=" + n, values[i] == n);
                holds(letters.charAt(i) + ">" + n, values[i] > n);
            }
        }
        holds("v=07", true);
        LoofahSaints y = Check.with(new int[][] {{0, 0, 0}});
        Check.order(y, "scrub 20 w=4;scrub 40 w>8;soft 1 w<1");
        int[] wears = {0, 9, 10, 39, 40, 49, 50, 89, 90, 99};
        int[] sums = {2, 2, 3, 3, 23, 23, 3, 3, 43, 43};
        for (int i = 0; i < wears.length; i++) {
            y.set(0, 1, wears[i]);
            c.due("wear " + wears[i], y.of(0, 6), sums[i]);
        }
        LoofahSaints x = Check.with(new int[][] {{0, 0, 0}});
        Check.order(x, "scrub 20 t=0&d=0");
        c.due("dry on day 0", x.of(0, 6), 23);
        x.pass(10);
        c.due("dry on day 10", x.of(0, 6), 23);
        x.pass(1);
        c.due("dry on day 11", x.of(0, 6), 3);
    }

    private static void precedence() {
        String y = "p=2", n = "p=0";
        holds(y + "|" + y + "&" + n, true);
        holds(n + "&" + y + "|" + y, true);
        holds("(" + y + "|" + y + ")&" + n, false);
        holds(n + "&(" + y + "|" + y + ")", false);
        holds("!" + n + "&" + n, false);
        holds("!(" + n + "&" + n + ")", true);
        holds("!" + y + "|" + y, true);
        holds("!(" + y + "|" + n + ")", false);
        holds("!!" + y, true);
        holds("!!!" + y, false);
        holds("!!!!" + n, false);
        holds(n + "|" + n + "|" + y, true);
        holds(y + "&" + y + "&" + n, false);
        holds(n + "|" + y + "&" + y + "|" + n, true);
        holds("((" + n + "|(" + y + "&(" + n + "|" + y + "))))", true);
    }

    private static void hard() {
        LoofahSaints x = new LoofahSaints();
        c.due("none", x.told(1), 6);
        Check.order(x, "wear 9;wear 3;wear 08");
        c.due("the last", x.told(1), 8);
        Check.order(x, "scrub 1 p=0");
        c.due("without", x.told(1), 6);
        Check.order(x, "wear 99;soft 1 p=0");
        c.due("ahead of soft", x.told(1), 99);
    }

    private static void sum() {
        LoofahSaints x = Check.with(new int[][] {{0, 0, 0}, {0, 1, 0}});
        Check.order(x, "scrub 10 v=0;soft 4 p<9;wear 1;scrub 20 v=1;soft 1 v=0;scrub 0 p=0");
        c.due("sum 0", x.of(0, 6), 3 + 10 - 4 - 1);
        c.due("sum 1", x.of(1, 6), 3 + 20 - 4);
        Check.order(x, "soft 99 p<9;soft 99 p<9;soft 99 p=0");
        c.due("below", x.of(0, 6), 3 - 297);
        c.due("below", x.of(1, 6), 3 - 198);
        Check.order(x, "scrub 5 p=4");
        c.due("the newest alone", x.of(0, 6), 3);
        c.due("a fault", Check.order(x, "wear 9;scrub 5 p=0;scrub 7 p=0&?"), -41);
        c.due("lets the one hold", x.of(0, 6), 3);
        c.due("and the next", Check.order(x, "scrub 1 p=0"), 3);
        c.due("has nothing of it", x.of(0, 6), 4);
        c.due("has nothing of it", x.told(1), 6);
    }
}
