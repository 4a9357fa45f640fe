/** Promises 32 to 35. */
public final class TapesTest {
    private static final Check c = new Check();
    private static final long NO = Long.MIN_VALUE;
    private static final int MIN = Integer.MIN_VALUE, MAX = Integer.MAX_VALUE;

    public static void main(String[] args) {
        tape();
        item();
        cut();
        read();
        shift();
        shiftRefuses();
        c.end();
    }

    private static void tape() {
        LoofahSaints x = new LoofahSaints();
        c.due("tape 6", x.tape(6, 9, 99), -1);
        c.due("tape -1", x.tape(-1, 0, -1), -1);
        c.due("sort 5", x.tape(0, 5, 1), -2);
        c.due("sort -2", x.tape(0, -2, 1), -2);
        c.due("sort ahead of size", x.tape(0, 5, -1), -2);
        c.due("61", x.tape(0, 0, 61), -2);
        c.due("max", x.tape(0, 0, MAX), -2);
        c.due("-1", x.tape(0, 0, -1), -14);
        c.due("min", x.tape(0, 4, MIN), -14);
        c.due("nothing yet", x.item(0, 0, 0), -11);
        for (int t = 0; t < 6; t++) {
            c.due("tape", x.tape(t, t % 5, 60 - t), 1);
            c.due("its last", x.read(t, 59 - t), 0);
            c.due("its end", x.read(t, 60 - t), NO);
        }
        c.due("a row of none", x.tape(0, 3, 0), 1);
        c.due("no place, but there", x.item(0, 0, 1), -13);
        x.tape(0, 3, 3);
        x.item(0, 0, 5);
        x.item(0, 1, 5);
        c.due("refused", x.tape(0, 3, -1), -14);
        c.due("stays", x.read(0, 1), 5);
        x.tape(0, 2, 3);
        c.due("all 0", x.read(0, 0), 0);
        c.due("all 0", x.read(0, 1), 0);
        c.due("nothing", x.tape(0, -1, MIN), 1);
        c.due("nothing there", x.read(0, 0), NO);
        c.due("nothing there", x.item(0, 0, 0), -11);
        c.due("nothing again", x.tape(0, -1, 61), 1);
    }

    private static void item() {
        LoofahSaints x = new LoofahSaints();
        x.tape(2, 2, 2);
        c.due("item", x.item(2, 1, 7), 1);
        c.due("place 2", x.item(2, 2, 7), -13);
        c.due("place -1", x.item(2, -1, 7), -13);
        c.due("place min", x.item(2, MIN, 7), -13);
        c.due("nothing", x.item(3, -1, 7), -11);
        c.due("tape 6", x.item(6, -1, 7), -1);
        c.due("tape -1", x.item(-1, 0, 7), -1);
        c.due("0 stays", x.read(2, 0), 0);
        c.due("1", x.read(2, 1), 7);
    }

    private static void cut() {
        LoofahSaints x = new LoofahSaints();
        long[] all = {0, 1, -1, 2, 127, 128, -129, 255, 256, 32767, 32768, 65536, -32769,
            2147483647L, 2147483648L, 4294967296L, -2147483649L, 0x7FFFFFFFFFFFFFFFL, NO, 0x123456789ABCDEF0L};
        for (int sort = 0; sort < 5; sort++) {
            x.tape(sort, sort, 1);
            for (long v : all) {
                long due = sort == 0 ? (byte) v : sort == 1 ? (short) v : sort == 2 ? (int) v : v;
                if (sort == 4) due = v != 0 ? 1 : 0;
                c.due("item", x.item(sort, 0, v), 1);
                c.due("sort " + sort + " of " + v, x.read(sort, 0), due);
            }
        }
    }

    private static void read() {
        LoofahSaints x = new LoofahSaints();
        x.tape(0, 3, 2);
        x.item(0, 1, -9);
        c.due("read", x.read(0, 1), -9);
        c.due("place 2", x.read(0, 2), NO);
        c.due("place -1", x.read(0, -1), NO);
        c.due("nothing", x.read(1, 0), NO);
        c.due("tape 6", x.read(6, 0), NO);
        c.due("tape -1", x.read(-1, 0), NO);
    }

    private static LoofahSaints numbered() {
        LoofahSaints x = new LoofahSaints();
        x.tape(0, 2, 6);
        x.tape(1, 2, 4);
        for (int i = 0; i < 6; i++) {
            x.item(0, i, i + 1);
            x.item(1, i, -i - 1);
        }
        return x;
    }

    private static void holds(LoofahSaints x, int tape, long... due) {
        for (int i = 0; i < due.length; i++) {
            c.due("tape " + tape + " item " + i, x.read(tape, i), due[i]);
        }
        c.due("end", x.read(tape, due.length), NO);
    }

    private static void shift() {
        LoofahSaints x = numbered();
        c.due("to another", x.shift(0, 1, 1, 2, 2), 2);
        holds(x, 0, 1, 2, 3, 4, 5, 6);
        holds(x, 1, -1, -2, 2, 3);
        x = numbered();
        c.due("up", x.shift(0, 0, 0, 2, 4), 4);
        holds(x, 0, 1, 2, 1, 2, 3, 4);
        x = numbered();
        c.due("down", x.shift(0, 2, 0, 0, 4), 4);
        holds(x, 0, 3, 4, 5, 6, 5, 6);
        x = numbered();
        c.due("all", x.shift(1, 0, 0, 0, 4), 4);
        holds(x, 0, -1, -2, -3, -4, 5, 6);
        c.due("none at the ends", x.shift(0, 6, 1, 4, 0), 0);
        c.due("none on itself", x.shift(0, 3, 0, 3, 3), 3);
        holds(x, 0, -1, -2, -3, -4, 5, 6);
    }

    private static void shiftRefuses() {
        LoofahSaints x = numbered();
        x.tape(2, 3, 6);
        c.due("tape 6", x.shift(6, -1, 0, 0, 1), -1);
        c.due("tape -1", x.shift(-1, 0, 0, 0, 1), -1);
        c.due("other 6", x.shift(0, 0, 6, 0, -1), -1);
        c.due("other -1", x.shift(3, 0, -1, 0, 1), -1);
        c.due("nothing", x.shift(3, 0, 0, 0, -1), -11);
        c.due("nothing in other", x.shift(0, -1, 3, 0, 1), -11);
        c.due("unlike", x.shift(0, -1, 2, 0, 1), -12);
        c.due("unlike, none", x.shift(2, 0, 0, 0, 0), -12);
        int[][] places = {{-1, 0, 1}, {0, -1, 1}, {0, 0, -1}, {0, 0, 5}, {5, 0, 2}, {0, 3, 2}, {6, 0, 1}, {0, 4, 1},
            {7, 0, 0}, {0, 5, 0}, {MIN, 0, 1}, {0, MIN, 1}, {0, 0, MIN}, {MAX, 0, 1}, {0, MAX, 1}, {0, 0, MAX},
            {MAX, MAX, MAX}, {MIN, MIN, MIN}, {1, 0, MAX}};
        for (int[] p : places) {
            c.due("place " + p[0] + " " + p[1] + " " + p[2], x.shift(0, p[0], 1, p[1], p[2]), -13);
        }
        holds(x, 0, 1, 2, 3, 4, 5, 6);
        holds(x, 1, -1, -2, -3, -4);
    }
}
