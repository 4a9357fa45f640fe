/** What Terms 3 and promises 25 and 32 to 35 say of edges: each sentence by a test of its own. */
public final class TapeEdgesTest {
    private static final Check c = new Check();
    private static final int MIN = Integer.MIN_VALUE, MAX = Integer.MAX_VALUE;
    private static final long NO = Long.MIN_VALUE;

    public static void main(String[] args) {
        rows();
        judged();
        judgedToTheEnd();
        judge();
        tape();
        item();
        itemIsCut();
        read();
        shiftAsBefore();
        shift();
        c.end();
    }

    private static void rows() {
        c.says("TAPES 0 .. 5 hold nothing (at first), or a row of 0 bytes, 1 shorts, 2 ints, 3 longs, 4 booleans "
            + "(items 0, 1)");
        LoofahSaints x = new LoofahSaints();
        for (int t = 0; t < 6; t++) {
            c.due("nothing at first", x.read(t, 0), NO);
            c.due("nothing at first", x.item(t, 0, 0), -11);
        }
        long[] all = {-128, -32768, -2147483648L, NO + 1, 1};
        for (int sort = 0; sort < 5; sort++) {
            c.due("a row", x.tape(5, sort, 1), 1);
            x.item(5, 0, all[sort]);
            c.due("the least of its items", x.read(5, 0), all[sort]);
        }
        c.due("no sort 5", x.tape(5, 5, 1), -2);
        c.due("no tape 6", x.tape(6, 0, 1), -1);
        c.due("a boolean stays", x.read(5, 0), 1);
    }

    private static LoofahSaints told(int length, int... items) {
        LoofahSaints x = Check.with(new int[0][], 0, 4095, 1, 0x800);
        x.tape(0, 1, length);
        for (int i = 0; i < items.length; i++) {
            x.item(0, i, items[i]);
        }
        return x;
    }

    private static void judged() {
        c.says("What is ON them, told by a row of shorts, from a place on, NOVICE by NOVICE (all four), is JUDGED: the "
            + "first that is otherwise (counted from 0 from that place on); -5: none");
        c.due("none", told(4, 0, 4095, 1, 0x800).judge(0, 0), -5);
        c.due("none, whatever comes behind", told(6, 0, 4095, 1, 0x800, 9, 9).judge(0, 0), -5);
        c.due("the first", told(4, 1, 4095, 1, 0x800).judge(0, 0), 0);
        c.due("the second", told(4, 0, 4094, 0, 0).judge(0, 0), 1);
        c.due("the third", told(4, 0, 4095, 0, 0).judge(0, 0), 2);
        c.due("the last", told(4, 0, 4095, 1, 0).judge(0, 0), 3);
        LoofahSaints x = told(60);
        int[] on = {0, 4095, 1, 0x800};
        for (int n = 0; n < 4; n++) {
            x.item(0, 56 + n, on[n]);
        }
        c.due("from the last place that may be so", x.judge(0, 56), -5);
        c.due("from one ahead", x.judge(0, 55), 1);
        x.item(0, 58, 0);
        c.due("counted from that place on", x.judge(0, 56), 2);
        x.item(0, 58, 65537);
        c.due("a short has its lowest bits", x.judge(0, 56), -5);
        x.item(0, 58, -1);
        c.due("below 0", x.judge(0, 56), 2);
    }

    private static void judgedToTheEnd() {
        c.says("100 and how many were looked at, if the row ends ahead of that (or the place is below 0, or the TAPE "
            + "holds nothing)");
        c.due("nothing", new LoofahSaints().judge(0, 0), 100);
        c.due("nothing, below 0", new LoofahSaints().judge(5, -1), 100);
        c.due("a row of none", told(0).judge(0, 0), 100);
        c.due("one", told(1, 0).judge(0, 0), 101);
        c.due("two", told(2, 0, 4095).judge(0, 0), 102);
        c.due("three", told(3, 0, 4095, 1).judge(0, 0), 103);
        c.due("otherwise ahead of the end", told(3, 0, 4095, 0).judge(0, 0), 2);
        c.due("otherwise ahead of the end", told(1, 1).judge(0, 0), 0);
        LoofahSaints x = told(4, 0, 4095, 1, 0x800);
        c.due("the last place", x.judge(0, 3), 0);
        for (int i : new int[] {4, 5, 60, MAX, MAX - 3, -1, -4, MIN}) {
            c.due("place " + i, x.judge(0, i), 100);
        }
        x.item(0, 3, 0);
        c.due("from the last place on", x.judge(0, 3), 101);
    }

    private static void judge() {
        c.says("JUDGED from place i of a TAPE on. NONE: tape; CAST: it is no row of shorts");
        LoofahSaints x = new LoofahSaints();
        for (int tape : new int[] {-1, 6, MIN, MAX}) {
            c.due("tape " + tape, x.judge(tape, 0), -1);
            c.due("tape " + tape, x.judge(tape, -1), -1);
        }
        int[] due = {-12, -5, -12, -12, -12};
        for (int sort = 0; sort < 5; sort++) {
            x.tape(5, sort, 4);
            c.due("sort " + sort, x.judge(5, 0), due[sort]);
            x.tape(5, sort, 0);
            c.due("sort " + sort + " of none", x.judge(5, 0), sort == 1 ? 100 : -12);
        }
        x.tape(5, -1, 0);
        c.due("nothing again", x.judge(5, 0), 100);
    }

    private static void tape() {
        c.says("A TAPE becomes a row of n (0 .. 60) of a sort, all 0, or holds nothing (sort -1: n does not matter): 1. "
            + "NONE: tape; BAD: sort, n above 60; SIZE");
        LoofahSaints x = new LoofahSaints();
        for (int tape : new int[] {-1, 6, MIN, MAX}) {
            c.due("tape " + tape, x.tape(tape, 0, 1), -1);
            c.due("tape ahead of sort", x.tape(tape, 5, 1), -1);
            c.due("tape ahead of size", x.tape(tape, 0, -1), -1);
            c.due("tape, for nothing", x.tape(tape, -1, 0), -1);
        }
        for (int sort : new int[] {-2, 5, MIN, MAX}) {
            c.due("sort " + sort, x.tape(0, sort, 1), -2);
            c.due("sort ahead of size", x.tape(0, sort, -1), -2);
        }
        for (int sort = 0; sort < 5; sort++) {
            for (int n : new int[] {61, 100, MAX}) {
                c.due("n " + n, x.tape(0, sort, n), -2);
            }
            for (int n : new int[] {-1, -60, MIN}) {
                c.due("n " + n, x.tape(0, sort, n), -14);
            }
        }
        c.due("nothing came", x.read(0, 0), NO);
        c.due("none", x.tape(0, 0, 0), 1);
        c.due("a row, if of none", x.item(0, 0, 0), -13);
        c.due("sixty", x.tape(0, 3, 60), 1);
        c.due("the last of them", x.item(0, 59, 5), 1);
        c.due("no more", x.item(0, 60, 5), -13);
        x.item(0, 0, 5);
        x.item(0, 30, 5);
        c.due("anew", x.tape(0, 3, 60), 1);
        for (int i = 0; i < 60; i++) {
            c.due("all 0", x.read(0, i), 0);
        }
        x.item(0, 59, 7);
        c.due("refused", x.tape(0, 3, 61), -2);
        c.due("refused", x.tape(0, 3, -1), -14);
        c.due("it stays", x.read(0, 59), 7);
        c.due("shorter", x.tape(0, 3, 2), 1);
        c.due("longer", x.tape(0, 3, 60), 1);
        c.due("all 0", x.read(0, 59), 0);
        for (int n : new int[] {0, 61, -1, MIN, MAX}) {
            x.tape(1, 2, 1);
            c.due("nothing", x.tape(1, -1, n), 1);
            c.due("nothing is there", x.read(1, 0), NO);
            c.due("nothing again", x.tape(1, -1, n), 1);
        }
    }

    private static void item() {
        c.says("NONE; NOTHING; PLACE");
        LoofahSaints x = new LoofahSaints();
        x.tape(0, 2, 3);
        c.due("the first", x.item(0, 0, 4), 1);
        c.due("the last", x.item(0, 2, 6), 1);
        for (int i : new int[] {-1, 3, 60, MIN, MAX}) {
            c.due("place " + i, x.item(0, i, 9), -13);
            c.due("nothing ahead of place", x.item(1, i, 9), -11);
        }
        for (int tape : new int[] {-1, 6, MIN, MAX}) {
            c.due("tape " + tape, x.item(tape, 0, 9), -1);
            c.due("tape ahead of place", x.item(tape, -1, 9), -1);
        }
        c.due("a row of none has no place", x.tape(2, 4, 0), 1);
        c.due("a row of none has no place", x.item(2, 0, 1), -13);
        c.due("the first", x.read(0, 0), 4);
        c.due("the second", x.read(0, 1), 0);
        c.due("the last", x.read(0, 2), 6);
    }

    private static void itemIsCut() {
        c.says("Item i of a TAPE becomes v (its lowest bits, as many as an item has; booleans: whether v is not 0): 1");
        long[][] bytes = {{127, 127}, {128, -128}, {-128, -128}, {-129, 127}, {255, -1}, {256, 0}, {NO, 0}, {-1, -1}};
        long[][] shorts = {{32767, 32767}, {32768, -32768}, {-32769, 32767}, {65535, -1}, {65536, 0}, {NO, 0}};
        long[][] ints = {{2147483647L, 2147483647L}, {2147483648L, -2147483648L}, {-2147483649L, 2147483647L},
            {4294967295L, -1}, {4294967296L, 0}, {NO, 0}};
        long[][] longs = {{Long.MAX_VALUE, Long.MAX_VALUE}, {NO, NO}, {4294967296L, 4294967296L}, {-1, -1}};
        long[][] booleans = {{0, 0}, {1, 1}, {-1, 1}, {2, 1}, {256, 1}, {4294967296L, 1}, {NO, 1}, {Long.MAX_VALUE, 1}};
        long[][][] all = {bytes, shorts, ints, longs, booleans};
        LoofahSaints x = new LoofahSaints();
        for (int sort = 0; sort < 5; sort++) {
            x.tape(sort, sort, 2);
            for (long[] v : all[sort]) {
                c.due("item", x.item(sort, 1, v[0]), 1);
                c.due("sort " + sort + " of " + v[0], x.read(sort, 1), v[1]);
                c.due("the other", x.read(sort, 0), 0);
            }
        }
    }

    private static void read() {
        c.says("Item i of a TAPE. NO: no such TAPE, nothing there, no such place");
        LoofahSaints x = new LoofahSaints();
        for (int t = 0; t < 6; t += 5) {
            c.due("nothing there", x.read(t, 0), NO);
            x.tape(t, 2, 60);
            c.due("the first", x.read(t, 0), 0);
            c.due("the last", x.read(t, 59), 0);
            for (int i : new int[] {-1, 60, MIN, MAX}) {
                c.due("place " + i, x.read(t, i), NO);
            }
            x.tape(t, 2, 0);
            c.due("a row of none", x.read(t, 0), NO);
            x.tape(t, -1, 0);
            c.due("nothing there again", x.read(t, 0), NO);
        }
        for (int tape : new int[] {-1, 6, MIN, MAX}) {
            c.due("tape " + tape, x.read(tape, 0), NO);
        }
    }

    /** TAPE 0: 1 to 6, TAPE 1: -1 to -4, both ints. */
    private static LoofahSaints numbered() {
        LoofahSaints x = new LoofahSaints();
        x.tape(0, 2, 6);
        x.tape(1, 2, 4);
        for (int i = 0; i < 6; i++) {
            x.item(0, i, i + 1);
            x.item(1, i, -i - 1);
        }
        return x;
    }

    private static void holds(LoofahSaints x, int tape, long... due) {
        for (int i = 0; i < due.length; i++) {
            c.due("tape " + tape + " item " + i, x.read(tape, i), due[i]);
        }
        c.due("its end", x.read(tape, due.length), NO);
    }

    private static void shiftAsBefore() {
        c.says("n items of a TAPE from i on come to another one (or the same) from j on, as they all were before: n");
        LoofahSaints x = numbered();
        c.due("up by one", x.shift(0, 0, 0, 1, 5), 5);
        holds(x, 0, 1, 1, 2, 3, 4, 5);
        c.due("down by one", x.shift(0, 1, 0, 0, 5), 5);
        holds(x, 0, 1, 2, 3, 4, 5, 5);
        c.due("to where they are", x.shift(0, 0, 0, 0, 6), 6);
        holds(x, 0, 1, 2, 3, 4, 5, 5);
        c.due("all of the other", x.shift(1, 0, 0, 2, 4), 4);
        holds(x, 0, 1, 2, -1, -2, -3, -4);
        holds(x, 1, -1, -2, -3, -4);
        c.due("the last to the first", x.shift(0, 5, 1, 0, 1), 1);
        holds(x, 1, -4, -2, -3, -4);
        c.due("the first to the last", x.shift(0, 0, 1, 3, 1), 1);
        holds(x, 1, -4, -2, -3, 1);
        LoofahSaints y = numbered();
        c.due("none", y.shift(0, 0, 1, 0, 0), 0);
        c.due("none behind both ends", y.shift(0, 6, 1, 4, 0), 0);
        holds(y, 0, 1, 2, 3, 4, 5, 6);
        holds(y, 1, -1, -2, -3, -4);
        y.tape(2, 2, 0);
        c.due("none to a row of none", y.shift(0, 3, 2, 0, 0), 0);
        c.due("none of a row of none", y.shift(2, 0, 2, 0, 0), 0);
    }

    private static void shift() {
        c.says("NONE: tapes; NOTHING; CAST: of unlike sorts; PLACE: n, i or j is below 0, or beyond either's end");
        LoofahSaints x = numbered();
        for (int tape : new int[] {-1, 6, MIN, MAX}) {
            c.due("tape " + tape, x.shift(tape, 0, 0, 0, 1), -1);
            c.due("other " + tape, x.shift(0, 0, tape, 0, 1), -1);
            c.due("other ahead of nothing", x.shift(5, 0, tape, 0, 1), -1);
            c.due("tape ahead of place", x.shift(tape, -1, 0, -1, -1), -1);
        }
        c.due("nothing", x.shift(5, 0, 0, 0, 1), -11);
        c.due("nothing for it", x.shift(0, 0, 5, 0, 1), -11);
        c.due("nothing by nothing", x.shift(5, 0, 4, 0, 0), -11);
        c.due("nothing to itself", x.shift(5, 0, 5, 0, 0), -11);
        c.due("nothing ahead of place", x.shift(0, -1, 5, 0, -1), -11);
        for (int sort = 0; sort < 5; sort++) {
            x.tape(2, sort, 6);
            c.due("sort " + sort, x.shift(0, 0, 2, 0, 0), sort == 2 ? 0 : -12);
            c.due("sort " + sort, x.shift(2, 0, 0, 0, 0), sort == 2 ? 0 : -12);
            c.due("sort ahead of place", x.shift(2, 0, 0, -1, 0), sort == 2 ? -13 : -12);
            x.tape(3, sort, 6);
            c.due("alike", x.shift(2, 0, 3, 0, 6), 6);
        }
        int[][] places = {{0, 0, -1}, {-1, 0, 0}, {0, -1, 0}, {-1, 0, 1}, {0, -1, 1}, {0, 0, 5}, {0, 0, 7}, {3, 0, 4},
            {6, 0, 1}, {0, 4, 1}, {0, 1, 4}, {7, 0, 0}, {0, 5, 0}, {MIN, 0, 0}, {0, MIN, 0}, {0, 0, MIN}, {MAX, 0, 0},
            {0, MAX, 0}, {0, 0, MAX}, {MAX, 0, 1}, {0, MAX, 1}, {1, 0, MAX}, {0, 1, MAX}, {MAX, MAX, MAX}, {MIN, MIN, MIN},
            {MAX, 0, MIN}, {-1, 0, MAX}, {6, 4, MAX}};
        for (int[] p : places) {
            c.due("from " + p[0] + " to " + p[1] + " by " + p[2], x.shift(0, p[0], 1, p[1], p[2]), -13);
        }
        holds(x, 0, 1, 2, 3, 4, 5, 6);
        holds(x, 1, -1, -2, -3, -4);
    }
}
