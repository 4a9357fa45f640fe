/** Promises 28 to 31, and ACTS, BODIES, THE TRACE of the Terms. */
public final class ActsTest {
    private static final Check c = new Check();
    private static final int MIN = Integer.MIN_VALUE, MAX = Integer.MAX_VALUE;

    public static void main(String[] args) {
        acts();
        wrapping();
        refuses();
        taken();
        count();
        c.end();
    }

    /** An ACT of SAINT 2, whose v is 5: what it answers, and what runs. */
    private static void act(int kind, int act, int x, int due, int... bodies) {
        int[][] all = {{kind, 7, 1}, {0, 1, 1}, {kind, 5, 1}};
        LoofahSaints y = Check.with(all);
        String call = "kind " + kind + " act " + act + " of " + x;
        c.due(call, y.act(2, act, x), due);
        c.due(call + " ran", y.count(6), bodies.length);
        for (int i = 0; i < bodies.length; i++) {
            c.due(call + " body " + i, y.trace(i), bodies[i]);
        }
        c.due(call + " no more", y.trace(bodies.length), -1);
        c.due(call + " -1", y.trace(-1), -1);
        c.due(call + " min", y.trace(MIN), -1);
    }

    /** i is 2, v is 5. */
    private static void acts() {
        act(0, 0, 10, 12, 10);
        act(0, 1, 10, 7, 11, 10);
        act(0, 2, 10, 14, 12, 11, 10);
        act(1, 0, 10, 12, 10);
        act(1, 1, 10, 7 ^ 6, 20, 11, 10);
        act(1, 2, 20, (17 ^ 6) * 2, 12, 20, 11, 10);
        act(2, 0, 10, 32, 30, 10);
        act(2, 1, 10, 27, 11, 30, 10);
        act(2, 2, 10, 54, 12, 11, 30, 10);
        act(3, 0, 10, 12, 10);
        act(3, 1, 10, 7, 11, 10);
        act(3, 2, 10, 14 - 2, 40, 12, 11, 10, 11, 10);
        act(4, 0, 10, -12, 50, 10);
        act(4, 1, 10, (-13 - 5) ^ 6, 51, 20, 11, 50, 10);
        act(4, 2, 10, ((-13 - 5) ^ 6) * 2, 12, 51, 20, 11, 50, 10);
        act(5, 0, 10, 32, 30, 10);
        act(5, 1, 10, 27, 11, 30, 10);
        act(5, 2, 10, (8 * 3 + 2 - 5) * 2, 60, 12, 11, 30, 10);
        act(6, 0, 10, 12 ^ 5, 71, 10);
        act(6, 1, 10, (12 ^ 5) - 5 + 4, 70, 11, 71, 10, 10);
        act(6, 2, 10, ((12 ^ 5) - 5 + 4) * 2 + (3 ^ 5) - 5 + 4, 40, 12, 70, 11, 71, 10, 10, 70, 11, 71, 10, 10);
    }

    private static void wrapping() {
        act(0, 0, MAX, MIN + 1, 10);
        act(0, 1, MIN, MIN + 2 - 5, 11, 10);
        act(0, 2, MAX, (MAX + 2 - 5) * 2, 12, 11, 10);
        act(2, 0, MAX, MAX * 3 + 2, 30, 10);
        act(4, 0, MAX - 1, MIN, 50, 10);
        act(5, 2, MIN, ((MIN - 2) * 3 + 2 - 5) * 2, 60, 12, 11, 30, 10);
    }

    private static void refuses() {
        LoofahSaints x = Check.with(new int[][] {{0, 0, 1}});
        int[][] wrong = {{1, 0}, {-1, 0}, {0, 3}, {0, -1}, {MAX, 1}, {0, MIN}};
        for (int[] w : wrong) {
            c.due("act", x.act(0, 1, 5), 5);
            c.due("ran", x.count(6), 2);
            c.due("act " + w[0] + " " + w[1], x.act(w[0], w[1], 5), 0);
            c.due("no trace then", x.count(6), 0);
            c.due("no trace then", x.trace(0), -1);
        }
        c.due("the trace is empty at first", new LoofahSaints().trace(0), -1);
        x.act(0, 2, 5);
        x.act(0, 0, 5);
        c.due("the latest alone", x.count(6), 1);
        c.due("the latest alone", x.trace(1), -1);
    }

    private static void taken() {
        boolean[][] isOf = {
            {true, false, false, false, false, false, false},
            {true, true, false, false, false, false, false},
            {true, false, true, false, false, false, false},
            {true, false, false, true, false, false, false},
            {true, true, false, false, true, false, false},
            {true, false, true, false, false, true, false},
            {true, false, false, true, false, false, true},
        };
        for (int kind = 0; kind < 7; kind++) {
            LoofahSaints x = Check.with(new int[][] {{kind, 0, 1}});
            for (int k = 0; k < 7; k++) {
                c.due(kind + " for " + k, x.taken(0, k), isOf[kind][k] ? kind : -12);
                c.due("nothing", x.taken(1, k), -11);
            }
            c.due("k 7", x.taken(0, 7), -2);
            c.due("k -1", x.taken(0, -1), -2);
            c.due("bad ahead of nothing", x.taken(1, 7), -2);
            c.due("saint -1", x.taken(-1, 0), -11);
        }
    }

    private static void count() {
        LoofahSaints x = Check.with(new int[][] {{0, 0, 1}, {6, 0, 1}, {0, 0, 1}});
        Check.order(x, "wear 1");
        Check.order(x, "wear 2");
        Check.text(x, "wear");
        x.see(0, 0, 0);
        for (int i = 0; i < 6; i++) {
            if (i < 5) x.book(0, 0);
            x.plan(0, 0);
        }
        x.act(1, 2, 0);
        int[] due = {3, 2, 1, 6, 5, 4, 12};
        for (int what = 0; what < 7; what++) {
            c.due("count " + what, x.count(what), due[what]);
        }
        c.due("count 7", x.count(7), -2);
        c.due("count -1", x.count(-1), -2);
        c.due("count min", x.count(MIN), -2);
    }
}
