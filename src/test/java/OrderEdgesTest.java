/** What the Terms of AN ORDER and promises 9 and 10 say of edges: each sentence by a test of its own. */
public final class OrderEdgesTest {
    private static final Check c = new Check();
    private static final int MIN = Integer.MIN_VALUE, MAX = Integer.MAX_VALUE;

    public static void main(String[] args) {
        bytes();
        clauses();
        words();
        blanks();
        numbers();
        grammar();
        letters();
        nesting();
        theFault();
        theEnd();
        newest();
        hard();
        sum();
        feed();
        order();
        c.end();
    }

    private static void fault(String text, int place) {
        c.due("'" + text + "'", Check.order(new LoofahSaints(), text), -10 - place);
    }

    private static void stands(String text) {
        c.due("'" + text + "'", Check.order(new LoofahSaints(), text), 0);
    }

    private static void bytes() {
        c.says("AN ORDER is read from THE TEXT (bytes, 100 at most)");
        String clause = "scrub 9 p=0;";
        String hundred = "wear 1;" + clause.repeat(7) + "wear 12;w";
        c.due("its bytes", hundred.length(), 100);
        fault(hundred, 100);
        String whole = clause.repeat(7) + "wear 12;wear 13;";
        c.due("its bytes", whole.length(), 100);
        fault(whole, 100);
        String longest = clause.repeat(8) + "soft";
        fault(longest, 100);
        stands("soft 10 p=0" + "|p=1".repeat(22) + "0");
        LoofahSaints x = new LoofahSaints();
        Check.text(x, clause.repeat(7) + "scrub 12 !!p=00&");
        c.due("a hundred", x.count(5), 100);
        c.due("one more", x.feed('p'), -4);
        c.due("it ends too early", x.order(), -110);
        Check.text(x, clause.repeat(7) + "scrub 12 !!!p=00");
        c.due("a hundred", x.count(5), 100);
        c.due("all hundred", x.order(), 0);
    }

    private static void clauses() {
        c.says("CLAUSES, 1 to 10, with ; between");
        fault("", 0);
        stands("wear 1");
        String nine = "wear 1" + ";wear 1".repeat(8);
        stands(nine);
        stands(nine + ";wear 2");
        fault(nine + ";wear 2;", 69);
        fault(nine + ";wear 2;wear 3", 69);
        fault(nine + ";", 63);
        fault(";", 0);
        fault("wear 1;;wear 1", 7);
        fault("wear 1,wear 1", 6);
        fault("wear 1wear 1", 6);
        fault("wear 1 ;wear 1", 6);
        fault("wear 1; wear 1", 7);
        LoofahSaints x = Check.with(new int[][] {{0, 0, 0}});
        String ten = "scrub 1 p=0" + ";soft 0 p=0".repeat(4) + ";wear 1;wear 2;wear 3;wear 4;wear 5";
        c.due("ten of each word", Check.order(x, ten), 0);
        c.due("the first counts", x.of(0, 6), 4);
        c.due("the tenth counts", x.told(1), 5);
    }

    private static void words() {
        c.says("scrub n E; soft n E; wear n");
        stands("scrub 1 p=0");
        stands("soft 1 p=0");
        stands("wear 1");
        String[] texts = {"scrub 1 p=0", "soft 1 p=0", "wear 1"};
        int[] lengths = {5, 4, 4};
        for (int i = 0; i < 3; i++) {
            for (int at = 0; at < lengths[i]; at++) {
                String head = texts[i].substring(0, at), tail = texts[i].substring(at + 1);
                fault(head + "x" + tail, at);
                fault(head, at);
            }
        }
        fault("Wear 1", 0);
        fault("SOFT 1 p=0", 0);
        fault("scoft 1 p=0", 2);
        fault("srub 1 p=0", 1);
        fault("wear 1 p=0", 6);
        fault("soft 1", 6);
        fault("scrub 1", 7);
        fault("scrub p=0", 6);
    }

    private static void blanks() {
        c.says("(one blank ahead of each part behind the word; n 1 or 2 digits)");
        fault("wear1", 4);
        fault("wear  1", 5);
        fault(" wear 1", 0);
        fault("wear 1 ", 6);
        fault("wear\t1", 4);
        fault("scrub1 p=0", 5);
        fault("scrub  1 p=0", 6);
        fault("scrub 1p=0", 7);
        fault("scrub 1  p=0", 8);
        fault("scrub 1 p=0 ", 11);
        fault("soft 1 p =0", 8);
        fault("soft 1 p= 0", 9);
        fault("soft 1 p=0 |p=1", 10);
        fault("soft 1 ! p=0", 8);
        fault("soft 1 ( p=0)", 8);
        fault("soft 1 (p=0 )", 11);
    }

    private static void numbers() {
        c.says("n 1 or 2 digits");
        for (String word : new String[] {"wear ", "soft ", "scrub "}) {
            String behind = word.equals("wear ") ? "" : " p=0";
            int at = word.length();
            stands(word + "0" + behind);
            stands(word + "9" + behind);
            stands(word + "00" + behind);
            stands(word + "99" + behind);
            fault(word + "000" + behind, at + 2);
            fault(word + "100" + behind, at + 2);
            fault(word + behind, at);
            fault(word + "-1" + behind, at);
            fault(word + "+1" + behind, at);
            fault(word + "/" + behind, at);
            fault(word + ":" + behind, at);
            fault(word + "1/" + behind, at + 1);
            fault(word + "1:" + behind, at + 1);
            fault(word + "a" + behind, at);
        }
        LoofahSaints x = Check.with(new int[][] {{0, 0, 0}});
        Check.order(x, "wear 07;scrub 09 p=0");
        c.due("07", x.told(1), 7);
        c.due("09", x.of(0, 6), 12);
        Check.order(x, "wear 70;scrub 90 p=0");
        c.due("70", x.told(1), 70);
        c.due("90", x.of(0, 6), 93);
    }

    /** Whether E holds of SAINT 1, a HERETIC with v 7, WEAR 49 and WET, on DAY 13. */
    private static int holds(String e) {
        LoofahSaints x = Check.with(new int[][] {{0, 0, 0}, {3, 7, 0}});
        x.pass(13);
        x.use(1, 0);
        x.set(1, 1, 49);
        c.due("'" + e + "'", Check.order(x, "scrub 20 " + e), 0);
        return x.of(1, 6) == 23 ? 1 : 0;
    }

    private static void due(String e, boolean holds) {
        c.due(e + " holds", holds(e), holds ? 1 : 0);
    }

    private static void grammar() {
        c.says("E: T or T|E. T: F or F&T. F: !F, (E), or a TEST");
        String y = "p=1", n = "p=0";
        for (int bits = 0; bits < 8; bits++) {
            boolean a = (bits & 1) != 0, b = (bits & 2) != 0, d = (bits & 4) != 0;
            String p = a ? y : n, q = b ? y : n, r = d ? y : n;
            due(p + "|" + q + "&" + r, a || b && d);
            due(p + "&" + q + "|" + r, a && b || d);
            due("(" + p + "|" + q + ")&" + r, (a || b) && d);
            due(p + "&(" + q + "|" + r + ")", a && (b || d));
            due("!" + p + "&" + q + "|" + r, !a && b || d);
            due("!(" + p + "&" + q + "|" + r + ")", !(a && b || d));
            due(p + "|!" + q + "|" + r, a || !b || d);
            due(p + "&!!" + q + "&" + r, a && b && d);
            due(p + "&" + q + "|" + q + "&" + r, a && b || b && d);
        }
        String at = "soft 1 ";
        fault(at + "|p=0", 7);
        fault(at + "&p=0", 7);
        fault(at + ")p=0", 7);
        fault(at + "()", 8);
        fault(at + "p=0!", 10);
        fault(at + "p=0(", 10);
        fault(at + "p=0)", 10);
        fault(at + "p=0p=0", 10);
        fault(at + "p=0||p=0", 11);
        fault(at + "p=0&|p=0", 11);
        fault(at + "(p=0))", 12);
        fault(at + "(p=0;", 11);
        fault(at + "(p=0)p=0", 12);
    }

    private static void letters() {
        c.says("a TEST: a letter, < or = or >, a number (1 or 2 digits): of a SAINT p its number, k its KIND, v its v, "
            + "w WEAR by 10 (cut), t whether it is WET (1, 0), d DAY modulo 10");
        String letters = "pkvwtd";
        int[] values = {1, 3, 7, 4, 1, 3};
        for (int i = 0; i < 6; i++) {
            char letter = letters.charAt(i);
            for (int n : new int[] {0, values[i] - 1, values[i], values[i] + 1, 10, 99}) {
                due(letter + "<" + n, values[i] < n);
                due(letter + "=" + n, values[i] == n);
                due(letter + ">" + n, values[i] > n);
            }
            due(letter + "=0" + values[i], true);
            fault("soft 1 " + letter, 8);
            fault("soft 1 " + letter + "!0", 8);
            fault("soft 1 " + letter + "<", 9);
            fault("soft 1 " + letter + "<=1", 9);
            fault("soft 1 " + letter + "=-1", 9);
            fault("soft 1 " + letter + ">100", 11);
        }
        for (int sign = 0; sign < 128; sign++) {
            boolean begins = letters.indexOf(sign) >= 0 || sign == '!' || sign == '(';
            fault("soft 1 " + (char) sign, begins ? 8 : 7);
            boolean relates = sign == '<' || sign == '=' || sign == '>';
            fault("soft 1 p" + (char) sign, relates ? 9 : 8);
        }
        wearByTen();
        dayModuloTen();
        wetOrNot();
    }

    private static void wearByTen() {
        LoofahSaints x = Check.with(new int[][] {{0, 0, 0}});
        Check.order(x, "scrub 1 w>0;scrub 1 w>1;scrub 1 w>8");
        int[] wears = {0, 9, 10, 19, 20, 89, 90, 99};
        int[] grits = {3, 3, 4, 4, 5, 5, 6, 6};
        for (int i = 0; i < wears.length; i++) {
            x.set(0, 1, wears[i]);
            c.due("w of " + wears[i], x.of(0, 6), grits[i]);
        }
    }

    private static void dayModuloTen() {
        LoofahSaints x = Check.with(new int[][] {{0, 0, 0}});
        Check.order(x, "scrub 1 d=0;scrub 2 d=9;scrub 4 d=1;scrub 8 d>9");
        int[] days = {0, 1, 9, 10, 11, 19, 20};
        int[] grits = {4, 7, 5, 4, 7, 5, 4};
        for (int i = 0; i < days.length; i++) {
            x.pass(days[i] - x.told(0));
            c.due("d of " + days[i], x.of(0, 6), grits[i]);
        }
    }

    private static void wetOrNot() {
        LoofahSaints x = Check.with(new int[][] {{0, 0, 0}});
        Check.order(x, "scrub 1 t=0;scrub 2 t=1;scrub 4 t>1");
        c.due("not wet", x.of(0, 6), 4);
        x.use(0, 0);
        c.due("wet", x.of(0, 6), 5);
        x.pass(1);
        c.due("not wet", x.of(0, 6), 4);
    }

    private static void nesting() {
        c.says("A ( or ! within 4 others is none");
        stands("soft 1 ((((p=0))))");
        fault("soft 1 (((((p=0)))))", 11);
        stands("soft 1 !!!!p=0");
        fault("soft 1 !!!!!p=0", 11);
        stands("soft 1 !(!(p=0))");
        fault("soft 1 !(!((p=0)))", 11);
        fault("soft 1 (((!(p=0))))", 11);
        fault("soft 1 ((((!p=0))))", 11);
        fault("soft 1 !!!!(p=0)", 11);
        stands("soft 1 (((p=0&!p=0)))");
        stands("soft 1 ((((p=0&p=0))))");
        fault("soft 1 ((((p=0&!p=0))))", 15);
        fault("soft 1 ((((p=0|(p=0)))))", 15);
        stands("soft 1 ((((p=0))))&((((p=0))))|!!!!p=0&!(!(p=0))");
        fault("soft 1 ((((p=0))))&(((((p=0", 23);
        stands("soft 1 ((((p=0))));scrub 1 !!!!p=0;soft 1 ((((p=0))))");
        fault("soft 1 ((((p=0))));scrub 1 !!!!!p=0", 31);
    }

    private static void theFault() {
        c.says("The FAULT: the place of the first byte with which none begins so");
        fault("?", 0);
        fault("?????", 0);
        fault("" + (char) 0, 0);
        fault("" + (char) 127, 0);
        fault("sx", 1);
        fault("scx", 2);
        fault("scrub 1 p=0;x", 12);
        fault("scrub 1 p=0;sx", 13);
        fault("wear 1;wear 2;wear 3;?", 21);
        fault("wear 1?;wear 2", 6);
        fault("wear 1" + (char) 0, 6);
        fault("soft 1 p=0" + "|p=1".repeat(22) + "&x", 99);
    }

    private static void theEnd() {
        c.says("(the end of THE TEXT, if it ends too early)");
        fault("", 0);
        String whole = "scrub 12 !(p=1|k<2)&v>3;soft 4 w=5;wear 67";
        boolean[] stands = new boolean[whole.length() + 1];
        for (int end : new int[] {19, 23, 34, 41, 42}) {
            stands[end] = true;
        }
        for (int end = 0; end <= whole.length(); end++) {
            if (stands[end]) stands(whole.substring(0, end));
            else fault(whole.substring(0, end), end);
        }
        fault("wear 1;", 7);
        fault("soft 1 p=0" + "|p=1".repeat(22) + "&p", 100);
    }

    private static void newest() {
        c.says("The newest ORDER holds (6 at most); without one there are no CLAUSES");
        LoofahSaints x = Check.with(new int[][] {{0, 0, 0}});
        c.due("without one", x.of(0, 6), 3);
        c.due("without one", x.told(1), 6);
        for (int i = 0; i < 6; i++) {
            c.due("order " + i, Check.order(x, "scrub " + (10 + i) + " p=0;wear " + (20 + i)), i);
            c.due("grit by the newest", x.of(0, 6), 13 + i);
            c.due("hard by the newest", x.told(1), 20 + i);
        }
        c.due("a seventh", Check.order(x, "scrub 1 p=0;wear 1"), -4);
        c.due("the sixth holds", x.of(0, 6), 18);
        c.due("the sixth holds", x.told(1), 25);
        c.due("six", x.count(1), 6);
    }

    private static void hard() {
        c.says("HARD (6 without): the last n of wear");
        LoofahSaints x = Check.with(new int[][] {{0, 0, 0}});
        c.due("without an order", x.told(1), 6);
        Check.order(x, "wear 0");
        c.due("0", x.told(1), 0);
        Check.order(x, "wear 99");
        c.due("99", x.told(1), 99);
        Check.order(x, "scrub 9 p=0;soft 8 p=0");
        c.due("an order without wear", x.told(1), 6);
        Check.order(x, "wear 9;soft 1 p=0;wear 3;soft 2 p=0");
        c.due("the last", x.told(1), 3);
        c.due("a fault", Check.order(x, "wear 5;wear"), -21);
        c.due("holds on", x.told(1), 3);
    }

    private static void sum() {
        c.says("SUM of a SAINT: 3, and the n of all scrub whose E holds, less those of all soft, together "
            + "(may be below 0)");
        LoofahSaints x = Check.with(new int[][] {{0, 0, 0}, {0, 1, 0}});
        c.due("3", x.of(0, 6), 3);
        Check.order(x, "wear 50");
        c.due("wear is not in it", x.of(0, 6), 3);
        Check.order(x, "scrub 10 p=0;soft 4 p=0;scrub 20 p=1;soft 90 p=1;scrub 7 p<2;soft 2 p<2");
        c.due("what holds of 0", x.of(0, 6), 3 + 10 - 4 + 7 - 2);
        c.due("what holds of 1, below 0", x.of(1, 6), 3 + 20 - 90 + 7 - 2);
        Check.order(x, "scrub 0 p=0;soft 0 p=0;scrub 5 p>1;soft 9 p>1");
        c.due("0, and none that holds", x.of(0, 6), 3);
        Check.order(x, "soft 99 p=0;soft 99 p=0;scrub 1 p=0");
        c.due("below 0 on the way", x.of(0, 6), 3 - 99 - 99 + 1);
    }

    private static void feed() {
        c.says("A sign (0 .. 127) comes behind THE TEXT's: how many it has. BAD; FULL");
        LoofahSaints x = new LoofahSaints();
        for (int sign : new int[] {-1, 128, 255, MIN, MAX}) {
            c.due("sign " + sign, x.feed(sign), -2);
        }
        c.due("none came", x.count(5), 0);
        c.due("the least", x.feed(0), 1);
        c.due("the largest", x.feed(127), 2);
        for (int i = 3; i <= 100; i++) {
            c.due("sign", x.feed('a'), i);
        }
        c.due("full", x.feed('a'), -4);
        c.due("full by 0", x.feed(0), -4);
        c.due("bad ahead of full", x.feed(128), -2);
        c.due("bad ahead of full", x.feed(-1), -2);
        c.due("a hundred", x.count(5), 100);
    }

    private static void order() {
        c.says("THE TEXT, which is empty then (by a FAULT, too), is AN ORDER, and holds: its number. FULL: there are 6 "
            + "(THE TEXT stays); -10 less the FAULT (the one that held holds)");
        LoofahSaints x = new LoofahSaints();
        c.due("an empty text", x.order(), -10);
        c.due("a fault", Check.order(x, "wear 7!"), -16);
        c.due("empty then", x.count(5), 0);
        c.due("none holds still", x.told(1), 6);
        c.due("it is none", x.count(1), 0);
        for (int i = 0; i < 6; i++) {
            c.due("its number", Check.order(x, "wear " + (10 + i)), i);
            c.due("empty then", x.count(5), 0);
            c.due("holds", x.told(1), 10 + i);
            if (i == 5) break;
            c.due("a fault", Check.order(x, "wear 99;wear 98;"), -26);
            c.due("the one that held holds", x.told(1), 10 + i);
            c.due("it is none", x.count(1), i + 1);
        }
        LoofahSaints y = Check.with(new int[][] {{0, 0, 0}});
        c.due("a fault at its end", Check.order(y, "scrub 5 p=0;soft 1 p=0;wear 9;"), -40);
        c.due("the next", Check.order(y, "scrub 2 p=0"), 0);
        c.due("has no clause of it", y.of(0, 6), 5);
        c.due("has no wear of it", y.told(1), 6);
        c.due("full, without a text", x.order(), -4);
        Check.text(x, "wear 44");
        c.due("full", x.order(), -4);
        c.due("the text stays", x.count(5), 7);
        c.due("comes behind it", x.feed('!'), 8);
        c.due("full ahead of the fault", x.order(), -4);
        c.due("the text stays", x.count(5), 8);
        c.due("the sixth holds", x.told(1), 15);
    }
}
