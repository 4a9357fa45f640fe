/** What the Terms of SEEN, ODDS, PLANS, BOOKS and promises 16 to 24 say of edges: each sentence by a test of its own. */
public final class SeenEdgesTest {
    private static final Check c = new Check();
    private static final int MIN = Integer.MIN_VALUE, MAX = Integer.MAX_VALUE, ALL = 4095;
    private static final long NO = Long.MIN_VALUE;

    public static void main(String[] args) {
        fiveRows();
        sets();
        likewise();
        oddsOfOne();
        meanOfDays();
        plans();
        books();
        see();
        holed();
        can();
        odds();
        mean();
        plan();
        ends();
        book();
        looked();
        c.end();
    }

    private static LoofahSaints one(int kind, int v, int holes, int... on) {
        return Check.with(new int[][] {{kind, v, holes}}, on);
    }

    private static void fiveRows() {
        c.says("SEEN told by hand: a SAINT, a NOVICE, what it TAKES there today (5 rows at most)");
        LoofahSaints x = one(0, 0, 1, ALL);
        for (int i = 1; i <= 5; i++) {
            c.due("row " + i, x.see(0, 0, 0x007), i);
        }
        c.due("a sixth", x.see(0, 0, 0), -4);
        c.due("five", x.count(2), 5);
        c.due("the sixth is not asked", x.holed(0, 0), 512);
        LoofahSaints y = one(0, 0, 1, ALL);
        for (int i = 1; i < 5; i++) {
            y.see(0, 0, 0x007);
        }
        y.see(0, 0, 0);
        c.due("the fifth is asked", y.holed(0, 0), 0);
        LoofahSaints z = one(5, 0, 0, ALL);
        z.see(0, 0, 0x003);
        c.due("one is taken today", z.holed(0, 0), 0);
        z.pass(1);
        c.due("two the next day", z.holed(0, 0), 1024);
    }

    private static void sets() {
        c.says("HOLED of a SAINT: how many sets (0 .. 4095) there are by which, were these its HOLES, all of SEEN that is "
            + "of it is so; the least (-5: none)");
        LoofahSaints x = Check.with(new int[][] {{1, 9, 1}, {1, 9, 1}}, ALL, 0, 1);
        c.due("nothing seen: all", x.holed(0, 0), 4096);
        c.due("nothing seen: the least", x.holed(0, 1), 0);
        x.see(0, 1, 0);
        c.due("nothing on it: all", x.holed(0, 0), 4096);
        x.see(0, 0, ALL);
        c.due("the largest alone", x.holed(0, 0), 1);
        c.due("the largest", x.holed(0, 1), 4095);
        c.due("what is of another", x.holed(1, 0), 4096);
        x.see(1, 0, 0);
        c.due("the least alone", x.holed(1, 0), 1);
        c.due("the least", x.holed(1, 1), 0);
        x.see(1, 2, 1);
        c.due("none", x.holed(1, 0), 0);
        c.due("none", x.holed(1, 1), -5);
        c.due("the largest still", x.holed(0, 1), 4095);
        LoofahSaints y = one(0, 0, 0, ALL);
        y.see(0, 0, 0x007);
        c.due("as many as grit", y.holed(0, 0), 512);
        y.see(-1, 0, 0);
        y.see(0, 0, 0x003);
        c.due("fewer than grit", y.holed(0, 0), 1);
        y.see(-1, 0, 0);
        y.see(0, 0, 0x00F);
        c.due("more than grit", y.holed(0, 0), 0);
        y.see(-1, 0, 0);
        y.see(0, 1, 1);
        c.due("what is not on it", y.holed(0, 0), 0);
        LoofahSaints z = ofSecond();
        c.due("the clauses are asked of its own number", z.holed(1, 0), 256);
        c.due("the clauses are asked of its own number", z.holed(1, 1), 0x00F);
    }

    /** SAINT 1 TAKES four by its number. */
    private static LoofahSaints ofSecond() {
        LoofahSaints x = Check.with(new int[][] {{0, 0, ALL}, {0, 0, ALL}}, ALL);
        Check.order(x, "soft 3 p=0;scrub 1 p=1");
        x.see(1, 0, 0x00F);
        return x;
    }

    private static void likewise() {
        c.says("CAN of a SAINT: how many numbers v (0 .. 9) likewise; the least (-5: none)");
        LoofahSaints x = Check.with(new int[][] {{1, 5, ALL}, {1, 5, ALL}}, ALL, 0x00F);
        c.due("nothing seen: all", x.can(0, 0), 10);
        c.due("nothing seen: the least", x.can(0, 1), 0);
        x.see(0, 0, ALL);
        c.due("9 alone", x.can(0, 0), 1);
        c.due("9", x.can(0, 1), 9);
        c.due("what is of another", x.can(1, 0), 10);
        x.see(1, 0, 0x007);
        c.due("0 alone", x.can(1, 0), 1);
        c.due("0", x.can(1, 1), 0);
        x.see(1, 1, 0x00F);
        c.due("none", x.can(1, 0), 0);
        c.due("none", x.can(1, 1), -5);
        LoofahSaints y = one(4, 5, ALL, ALL);
        y.see(0, 0, 0);
        c.due("a dry pith by any", y.can(0, 0), 10);
        y.use(0, 3);
        c.due("a wet one by none", y.can(0, 0), 0);
        c.due("the clauses are asked of its own number", ofSecond().can(1, 0), 10);
        LoofahSaints z = one(0, 5, ALL, ALL);
        z.see(0, 0, 0x003);
        Check.order(z, "soft 1 v>6;soft 1 v<2");
        c.due("by the clauses", z.can(0, 0), 5);
        c.due("by the clauses", z.can(0, 1), 0);
    }

    private static void fraction(String call, LoofahSaints x, int doctrine, int novice, int above, int below) {
        c.due(call + " above", x.odds(doctrine, novice, 0), above);
        c.due(call + " below", x.odds(doctrine, novice, 1), below);
    }

    private static void oddsOfOne() {
        c.says("ODDS of a DOCTRINE and a NOVICE: if one SAINT, each alike likely, is USED on it now (a THREAD takes "
            + "nothing): how likely the DOCTRINE is not ON it then: a fraction in lowest terms (NO: no such ones, there "
            + "are no SAINTS)");
        c.due("no saints", new LoofahSaints().odds(0, 0, 0), NO);
        c.due("no saints", new LoofahSaints().odds(0, 0, 1), NO);
        int[][] six = {{0, 0, 0x801}, {0, 0, 0x003}, {0, 0, 0x003}, {0, 0, 0x006}, {0, 0, 0x006}, {0, 0, 0x006}};
        LoofahSaints x = Check.with(six, 0x80F, 0x7FE);
        fraction("3 of 6", x, 0, 0, 1, 2);
        fraction("5 of 6", x, 1, 0, 5, 6);
        fraction("3 of 6", x, 2, 0, 1, 2);
        fraction("0 of 6", x, 3, 0, 0, 1);
        fraction("1 of 6", x, 11, 0, 1, 6);
        fraction("not on it at all", x, 10, 0, 1, 1);
        fraction("not on it at all", x, 0, 1, 1, 1);
        fraction("nothing on it", x, 11, 3, 1, 1);
        x.set(0, 1, 99);
        fraction("a thread takes nothing: 2 of 6", x, 0, 0, 1, 3);
        fraction("a thread takes nothing: 0 of 6", x, 11, 0, 0, 1);
        x.set(5, 1, 99);
        fraction("4 of 6", x, 1, 0, 2, 3);
        for (int s = 0; s < 6; s++) {
            x.set(s, 1, 99);
        }
        fraction("all are threads", x, 0, 0, 0, 1);
        fraction("all are threads, not on it", x, 10, 0, 1, 1);
    }

    private static void meanOfDays() {
        c.says("MEAN of n DAYS (0 .. 60): WEAR of all behind n, together, by how many they are: a fraction in lowest terms "
            + "(NO: there are none)");
        c.due("none", new LoofahSaints().mean(0, 0), NO);
        c.due("none", new LoofahSaints().mean(0, 1), NO);
        LoofahSaints x = Check.with(new int[][] {{0, 0, 0}, {0, 0, 0}, {0, 0, 0}, {0, 0, 0}, {0, 0, 0}, {0, 0, 0}});
        int[][] wears = {{0, 0, 1}, {1, 1, 6}, {2, 1, 3}, {3, 1, 2}, {4, 2, 3}, {5, 5, 6}, {6, 1, 1}, {7, 7, 6}, {99, 33, 2}};
        for (int[] w : wears) {
            x.set(5, 1, w[0]);
            c.due(w[0] + " by 6 above", x.mean(0, 0), w[1]);
            c.due(w[0] + " by 6 below", x.mean(0, 1), w[2]);
        }
        for (int s = 0; s < 6; s++) {
            x.set(s, 1, 99);
        }
        c.due("594 by 6", x.mean(60, 0), 99);
        c.due("594 by 6", x.mean(60, 1), 1);
        LoofahSaints y = Check.with(new int[][] {{0, 0, 0}, {0, 0, 0}});
        Check.order(y, "wear 2");
        y.peg(1, 0);
        c.due("0 days", y.mean(0, 0), 0);
        c.due("1 day", y.mean(1, 0), 1);
        c.due("1 day", y.mean(1, 1), 1);
        c.due("2 days", y.mean(2, 0), 3);
        c.due("2 days", y.mean(2, 1), 2);
        c.due("60 days", y.mean(60, 0), 61);
        c.due("60 days", y.mean(60, 1), 2);
        c.due("-1", y.mean(-1, 0), NO);
        c.due("61", y.mean(61, 0), NO);
    }

    private static void plans() {
        c.says("A PLAN told by hand: what goes (0 a DAY, 1 a SAINT, if it is no THREAD, is USED on a NOVICE, told as 10 "
            + "times its number and that, 2 WEAR of a SAINT is 0, 3 a SAINT has no PEG; 8 rows at most): ENDS: how much is "
            + "ON all, together; WEAR of all");
        int[][] all = {{0, 0, ALL}, {0, 0, ALL}, {0, 0, ALL}, {0, 0, ALL}, {0, 0, ALL}, {0, 0, ALL}};
        LoofahSaints x = Check.with(all, ALL, ALL, ALL, ALL);
        c.due("no rows", x.ends(0), 48);
        c.due("the first on the first", x.plan(1, 0), 1);
        c.due("three are off", x.ends(0), 45);
        c.due("the last on the last", x.plan(1, 53), 2);
        c.due("six are off", x.ends(0), 42);
        x.set(0, 1, 99);
        c.due("a thread is not used", x.ends(0), 45);
        c.due("a thread stays", x.ends(1), 99 + 6);
        c.due("its wear is 0", x.plan(2, 0), 3);
        c.due("wear", x.ends(1), 6);
        c.due("a thread no more", x.plan(1, 0), 4);
        c.due("it is used", x.ends(0), 42);
        x.peg(4, 1);
        c.due("a day", x.plan(0, 0), 5);
        c.due("the peg's, too", x.ends(0), 39);
        c.due("has no peg", x.plan(3, 4), 6);
        c.due("a day", x.plan(0, 0), 7);
        c.due("nobody is used", x.ends(0), 39);
        c.due("the eighth", x.plan(1, 40), 8);
        c.due("dry again", x.ends(1), 6 + 6 + 6 + 6);
        c.due("a ninth", x.plan(1, 40), -4);
        c.due("the ninth does not go", x.ends(0), 36);
        x.set(4, 1, 93);
        c.due("a thread by its day", x.ends(0), 39);
        c.due("a thread by its day", x.ends(1), 6 + 6 + 99);
    }

    private static void books() {
        c.says("A BOOK told by hand: NOVICES, what is ON them (8 at most): LOOKED at: the number (from 0) of the first of "
            + "these rows by which it is otherwise now (-5: none)");
        LoofahSaints x = Check.with(new int[0][], 0, ALL, 1, 2);
        c.due("no rows", x.looked(), -5);
        int[] on = {0, ALL, 1, 2};
        for (int i = 0; i < 8; i++) {
            c.due("row " + (i + 1), x.book(i % 4, on[i % 4]), i + 1);
            c.due("all are so", x.looked(), -5);
        }
        c.due("a ninth", x.book(0, 1), -4);
        c.due("the ninth is not looked at", x.looked(), -5);
        int[][] first = {{3, 3}, {2, 2}, {1, 1}, {0, 0}};
        for (int[] f : first) {
            x.novice(f[0], 0, 0x100);
            c.due("the first that is otherwise", x.looked(), f[1]);
        }
        LoofahSaints y = Check.with(new int[0][], 5);
        for (int i = 0; i < 7; i++) {
            y.book(0, 5);
        }
        y.book(0, 4);
        c.due("the last", y.looked(), 7);
    }

    private static void see() {
        c.says("What is SEEN comes: how many there are (saint -1: none then, 0, whatever the rest is). NONE; "
            + "BAD: doctrines; FULL: 5");
        LoofahSaints x = Check.with(new int[][] {{0, 0, 1}, {0, 0, 1}});
        for (int saint : new int[] {-2, 2, 6, MIN, MAX}) {
            c.due("saint " + saint, x.see(saint, 0, 0), -1);
            c.due("saint ahead of doctrines", x.see(saint, 0, 4096), -1);
        }
        for (int novice : new int[] {-1, 4, MIN, MAX}) {
            c.due("novice " + novice, x.see(0, novice, 0), -1);
            c.due("novice ahead of doctrines", x.see(0, novice, -1), -1);
        }
        for (int doctrines : new int[] {-1, 4096, MIN, MAX}) {
            c.due("doctrines " + doctrines, x.see(0, 0, doctrines), -2);
        }
        c.due("none came", x.count(2), 0);
        c.due("none is there, none goes", x.see(-1, 0, 0), 0);
        c.due("largest", x.see(1, 3, 4095), 1);
        c.due("least", x.see(0, 0, 0), 2);
        for (int i = 3; i <= 5; i++) {
            c.due("row " + i, x.see(0, 0, i), i);
        }
        c.due("full", x.see(0, 0, 0), -4);
        c.due("saint ahead of full", x.see(2, 0, 0), -1);
        c.due("novice ahead of full", x.see(0, 4, 0), -1);
        c.due("doctrines ahead of full", x.see(0, 0, 4096), -2);
        c.due("none then, whatever the rest is", x.see(-1, MIN, MAX), 0);
        c.due("none", x.count(2), 0);
        c.due("none has been seen of it", x.holed(1, 0), 4096);
        c.due("the first again", x.see(0, 0, 0), 1);
    }

    private static void holed() {
        c.says("HOLED: what 0 how many, 1 the least; -5. NONE");
        LoofahSaints x = Check.with(new int[][] {{0, 0, 1}, {0, 0, 1}}, 3);
        x.see(1, 0, 2);
        c.due("how many", x.holed(1, 0), 1024);
        c.due("the least", x.holed(1, 1), 2);
        for (int what : new int[] {-1, 2, MIN, MAX}) {
            c.due("what " + what, x.holed(0, what), -1);
        }
        for (int saint : new int[] {-1, 2, 6, MIN, MAX}) {
            c.due("saint " + saint, x.holed(saint, 0), -1);
            c.due("saint " + saint, x.holed(saint, 1), -1);
        }
        x.see(0, 0, 4);
        c.due("how many of none", x.holed(0, 0), 0);
        c.due("the least of none", x.holed(0, 1), -5);
        c.due("no saint at all", new LoofahSaints().holed(0, 0), -1);
    }

    private static void can() {
        c.says("CAN: what 0 how many, 1 the least; -5. NONE");
        LoofahSaints x = Check.with(new int[][] {{1, 0, ALL}, {1, 0, ALL}}, 0x3FF);
        x.see(1, 0, 0x3FF);
        c.due("how many", x.can(1, 0), 3);
        c.due("the least", x.can(1, 1), 7);
        for (int what : new int[] {-1, 2, MIN, MAX}) {
            c.due("what " + what, x.can(0, what), -1);
        }
        for (int saint : new int[] {-1, 2, 6, MIN, MAX}) {
            c.due("saint " + saint, x.can(saint, 0), -1);
            c.due("saint " + saint, x.can(saint, 1), -1);
        }
        x.see(0, 0, 0);
        c.due("how many of none", x.can(0, 0), 0);
        c.due("the least of none", x.can(0, 1), -5);
        c.due("no saint at all", new LoofahSaints().can(0, 0), -1);
    }

    private static void odds() {
        c.says("ODDS; part 0 above, 1 below the line. NO: doctrine, novice, part, as told");
        LoofahSaints x = Check.with(new int[][] {{0, 0, 0x801}, {0, 0, 0}, {0, 0, 0}}, 0x801, 0, 0, 0x801);
        c.due("above", x.odds(0, 0, 0), 1);
        c.due("below", x.odds(0, 0, 1), 3);
        c.due("the last above", x.odds(11, 3, 0), 1);
        c.due("the last below", x.odds(11, 3, 1), 3);
        for (int doctrine : new int[] {-1, 12, 32, MIN, MAX}) {
            c.due("doctrine " + doctrine, x.odds(doctrine, 0, 0), NO);
            c.due("doctrine " + doctrine, x.odds(doctrine, 0, 1), NO);
        }
        for (int novice : new int[] {-1, 4, MIN, MAX}) {
            c.due("novice " + novice, x.odds(0, novice, 0), NO);
        }
        for (int part : new int[] {-1, 2, MIN, MAX}) {
            c.due("part " + part, x.odds(0, 0, part), NO);
        }
    }

    private static void mean() {
        c.says("MEAN; part likewise. NO");
        LoofahSaints x = Check.with(new int[][] {{0, 0, 0}, {0, 0, 0}, {0, 0, 0}});
        x.set(0, 1, 4);
        c.due("above", x.mean(0, 0), 4);
        c.due("below", x.mean(0, 1), 3);
        c.due("in 60 days", x.mean(60, 1), 3);
        for (int part : new int[] {-1, 2, MIN, MAX}) {
            c.due("part " + part, x.mean(0, part), NO);
        }
        for (int n : new int[] {-1, 61, MIN, MAX}) {
            c.due("n " + n, x.mean(n, 0), NO);
            c.due("n " + n, x.mean(n, 1), NO);
        }
    }

    private static void plan() {
        c.says("A row comes to the PLAN: how many there are (what -1: it is empty then, 0, whatever the rest is). NONE: "
            + "what (0 .. 3), saint (but by 0, whose n does not matter), novice (by 1); FULL: 8");
        LoofahSaints x = Check.with(new int[][] {{0, 0, 1}, {0, 0, 1}});
        for (int what : new int[] {-2, 4, MIN, MAX}) {
            c.due("what " + what, x.plan(what, 0), -1);
        }
        for (int n : new int[] {-1, -3, -4, -9, -10, -11, 4, 9, 14, 19, 20, 21, 60, MIN, MAX}) {
            c.due("use " + n, x.plan(1, n), -1);
        }
        for (int n : new int[] {-1, 2, 6, 10, MIN, MAX}) {
            c.due("wear of " + n, x.plan(2, n), -1);
            c.due("peg of " + n, x.plan(3, n), -1);
        }
        c.due("none came", x.count(3), 0);
        c.due("empty, and so then", x.plan(-1, 0), 0);
        c.due("a day, whatever n", x.plan(0, MIN), 1);
        c.due("a day, whatever n", x.plan(0, MAX), 2);
        c.due("the first", x.plan(1, 0), 3);
        c.due("the last", x.plan(1, 13), 4);
        c.due("the first", x.plan(2, 0), 5);
        c.due("the last", x.plan(2, 1), 6);
        c.due("the first", x.plan(3, 0), 7);
        c.due("the last", x.plan(3, 1), 8);
        c.due("full", x.plan(0, 0), -4);
        c.due("what ahead of full", x.plan(4, 0), -1);
        c.due("saint ahead of full", x.plan(2, 2), -1);
        c.due("novice ahead of full", x.plan(1, 14), -1);
        c.due("empty, whatever n", x.plan(-1, MIN), 0);
        c.due("empty", x.count(3), 0);
        c.due("nothing goes", x.ends(1), 0);
        c.due("the first again", x.plan(1, 1), 1);
        c.due("a day of no saint at all", new LoofahSaints().plan(0, 5), 1);
        c.due("no saint at all", new LoofahSaints().plan(2, 0), -1);
    }

    private static void ends() {
        c.says("ENDS: what 0 how much is ON all, 1 WEAR of all. NONE");
        LoofahSaints x = Check.with(new int[][] {{0, 0, 1}, {0, 0, 1}}, ALL, ALL, ALL, ALL);
        x.set(0, 1, 99);
        x.set(1, 1, 99);
        c.due("on all", x.ends(0), 48);
        c.due("wear of all", x.ends(1), 198);
        for (int what : new int[] {-1, 2, MIN, MAX}) {
            c.due("what " + what, x.ends(what), -1);
        }
        c.due("of none", new LoofahSaints().ends(0), 0);
        c.due("of none", new LoofahSaints().ends(1), 0);
    }

    private static void book() {
        c.says("A row comes to the BOOK: how many there are (novice -1: it is empty then, 0, whatever the rest is). NONE; "
            + "BAD: doctrines; FULL: 8");
        LoofahSaints x = new LoofahSaints();
        for (int novice : new int[] {-2, 4, MIN, MAX}) {
            c.due("novice " + novice, x.book(novice, 0), -1);
            c.due("novice ahead of doctrines", x.book(novice, -1), -1);
        }
        for (int doctrines : new int[] {-1, 4096, MIN, MAX}) {
            c.due("doctrines " + doctrines, x.book(0, doctrines), -2);
        }
        c.due("none came", x.count(4), 0);
        c.due("empty, and so then", x.book(-1, 0), 0);
        c.due("largest", x.book(3, 4095), 1);
        c.due("least", x.book(0, 0), 2);
        for (int i = 3; i <= 8; i++) {
            c.due("row " + i, x.book(i % 4, i), i);
        }
        c.due("full", x.book(0, 0), -4);
        c.due("novice ahead of full", x.book(4, 0), -1);
        c.due("doctrines ahead of full", x.book(0, 4096), -2);
        c.due("empty, whatever the rest is", x.book(-1, MIN), 0);
        c.due("empty", x.count(4), 0);
        c.due("the first again", x.book(0, 0), 1);
    }

    private static void looked() {
        c.says("LOOKED at; -5");
        LoofahSaints x = Check.with(new int[0][], 1, 2, 4, 8);
        c.due("an empty book", x.looked(), -5);
        x.book(3, 8);
        c.due("so", x.looked(), -5);
        x.book(3, 0);
        x.book(0, 0);
        c.due("the first of two", x.looked(), 1);
        x.book(-1, 0);
        c.due("an empty book again", x.looked(), -5);
        x.book(2, 0);
        c.due("the first of all", x.looked(), 0);
    }
}
