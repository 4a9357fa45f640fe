import java.util.ArrayList;
import java.util.List;
import java.util.function.ToLongFunction;

/** What is answered by a refusal, and what is asked, changes nothing: all that can be looked at is as without the call. */
public final class RefusalsTest {
    private static final Check c = new Check();
    private static final long NO = Long.MIN_VALUE;
    private static final int ALL = 4095, MIN = Integer.MIN_VALUE, MAX = Integer.MAX_VALUE;

    public static void main(String[] args) {
        refusedBusy();
        refusedFull();
        refusedNew();
        asked();
        rowsOfAnswers();
        answersBelowZero();
        numbersOfAnswers();
        hostsRefusals();
        c.end();
    }

    private static final class Twins {
        final LoofahSaints called;
        final LoofahSaints spared;

        Twins(LoofahSaints called, LoofahSaints spared) {
            this.called = called;
            this.spared = spared;
        }

        /** The first has the call, the second not; then both look alike. */
        void due(String call, long got, long want) {
            c.due(call, got, want);
            alike(call);
        }

        void alike(String call) {
            List<Long> one = look(called), other = look(spared);
            int wrong = -1;
            for (int i = one.size() - 1; i >= 0; i--) {
                if (!one.get(i).equals(other.get(i))) wrong = i;
            }
            c.due(call + " changes place", wrong, -1);
        }
    }

    private static List<Long> look(LoofahSaints x) {
        List<Long> all = new ArrayList<>();
        told(x, all);
        for (int i = 0; i < 20; i += 11) all.add((long) x.trace(i));
        for (int t = 0; t < 6; t++) {
            for (int i = 0; i < 4; i++) all.add(x.read(t, i));
            all.add((long) x.judge(t, 0));
        }
        // from here on it is changed, to show what no asking shows: THE TEXT, THE IMAGE, the ROWS
        all.add((long) x.order());
        all.add((long) x.told(1));
        all.add((long) x.undo());
        told(x, all);
        for (int s = 0; s < 6; s++) {
            for (int part = 0; part < 4; part++) all.add((long) x.row(s, part, 0));
        }
        return all;
    }

    private static void told(LoofahSaints x, List<Long> all) {
        for (int what = 0; what < 6; what++) all.add((long) x.told(what));
        for (int n = 0; n < 4; n++) {
            for (int what = 10; what < 31; what += 10) all.add((long) x.told(what + n));
        }
        for (int s = 0; s < 6; s++) {
            for (int what = 0; what < 8; what++) all.add((long) x.of(s, what));
            all.add((long) x.holed(s, 0));
            all.add((long) x.holed(s, 1));
            all.add((long) x.can(s, 0));
        }
        for (int what = 0; what < 7; what++) all.add((long) x.count(what));
        all.add((long) x.ends(0));
        all.add((long) x.ends(1));
        all.add((long) x.looked());
    }

    /** Something of all, nothing full: SAINTS of three KINDS, one a THREAD. */
    private static LoofahSaints busy() {
        LoofahSaints x = Check.with(new int[][] {{0, 5, 0x0FF}, {6, 3, 0xF00}, {1, 9, ALL}}, 0x123, ALL, 0x800, 1);
        Check.order(x, "wear 4;scrub 2 p=1");
        x.row(1, 1, 8);
        x.row(1, 2, 7);
        x.peg(0, 3);
        x.peg(1, 1);
        x.novice(0, 1, 0x00F);
        x.image();
        x.pass(1);
        x.set(2, 1, 99);
        Check.order(x, "wear 5;scrub 1 p=0");
        x.see(0, 0, 0x023);
        x.see(1, 1, 0x00F);
        x.plan(1, 12);
        x.plan(0, 0);
        x.book(1, 4);
        x.tape(0, 1, 3);
        x.item(0, 1, 77);
        x.tape(1, 2, 4);
        x.item(1, 0, -5);
        x.act(1, 1, 9);
        Check.text(x, "wear");
        return x;
    }

    /** All that can be full is. */
    private static LoofahSaints full() {
        int[][] six = {{0, 0, 1}, {1, 1, 3}, {2, 2, 7}, {3, 3, 15}, {4, 4, 31}, {5, 5, 63}};
        LoofahSaints x = Check.with(six, ALL, ALL, ALL, ALL);
        for (int i = 0; i < 6; i++) {
            Check.order(x, "wear " + i);
        }
        for (int i = 0; i < 8; i++) {
            x.see(i % 6, i % 4, i);
            x.plan(1, i % 6 * 10);
            x.book(i % 4, ALL);
        }
        x.image();
        for (int i = 0; i < 100; i++) {
            x.feed('s');
        }
        return x;
    }

    private static void busy(String call, ToLongFunction<LoofahSaints> run, long want) {
        Twins t = new Twins(busy(), busy());
        t.due(call, run.applyAsLong(t.called), want);
    }

    private static void full(String call, ToLongFunction<LoofahSaints> run, long want) {
        Twins t = new Twins(full(), full());
        t.due(call, run.applyAsLong(t.called), want);
    }

    private static void refusedBusy() {
        c.says("What is answered so changes nothing");
        busy("saint kind", x -> x.saint(7, 0, 0), -1);
        busy("saint v", x -> x.saint(0, 10, 0), -2);
        busy("saint holes", x -> x.saint(0, 0, 4096), -2);
        busy("of saint", x -> x.of(3, 0), -10001);
        busy("of what", x -> x.of(0, 8), -10001);
        busy("set saint", x -> x.set(3, 0, 5), -1);
        busy("set what", x -> x.set(0, 2, 5), -1);
        busy("set holes", x -> x.set(0, 0, 4096), -2);
        busy("set holes", x -> x.set(0, 0, -1), -2);
        busy("set wear", x -> x.set(0, 1, 100), -2);
        busy("set wear", x -> x.set(0, 1, -1), -2);
        busy("peg saint", x -> x.peg(3, 0), -1);
        busy("peg novice", x -> x.peg(0, 4), -1);
        busy("peg novice", x -> x.peg(0, -2), -1);
        busy("novice", x -> x.novice(4, 0, 5), -1);
        busy("novice what", x -> x.novice(0, 2, 5), -1);
        busy("novice doctrines", x -> x.novice(0, 0, 4096), -2);
        busy("novice doctrines", x -> x.novice(0, 1, -1), -2);
        busy("use saint", x -> x.use(3, 0), -1);
        busy("use novice", x -> x.use(0, 4), -1);
        busy("use a thread", x -> x.use(2, 1), -3);
        busy("row saint", x -> x.row(3, 0, 5), -1);
        busy("row part", x -> x.row(1, 4, 5), -1);
        busy("row n", x -> x.row(1, 1, 10), -2);
        busy("row kind", x -> x.row(0, 1, 5), -3);
        busy("feed", x -> x.feed(128), -2);
        busy("told", x -> x.told(6), -1);
        busy("pass", x -> x.pass(61), -2);
        busy("pass", x -> x.pass(-1), -2);
        busy("on what", x -> x.on(1, 1), -1);
        busy("on n", x -> x.on(61, 0), -2);
        busy("shared", x -> x.shared(13), -1);
        busy("scrubbed novice", x -> x.scrubbed(4, 1, 0), -1);
        busy("scrubbed k", x -> x.scrubbed(0, 1, 3), -1);
        busy("scrubbed n", x -> x.scrubbed(0, 4, 0), -2);
        busy("see saint", x -> x.see(3, 0, 0), -1);
        busy("see novice", x -> x.see(0, -1, 0), -1);
        busy("see doctrines", x -> x.see(0, 0, 4096), -2);
        busy("holed", x -> x.holed(3, 0), -1);
        busy("can", x -> x.can(0, 2), -1);
        busy("odds", x -> x.odds(12, 0, 0), NO);
        busy("mean", x -> x.mean(61, 0), NO);
        busy("plan what", x -> x.plan(4, 0), -1);
        busy("plan use saint", x -> x.plan(1, 30), -1);
        busy("plan use novice", x -> x.plan(1, 14), -1);
        busy("plan saint", x -> x.plan(2, 3), -1);
        busy("ends", x -> x.ends(2), -1);
        busy("book novice", x -> x.book(4, 0), -1);
        busy("book doctrines", x -> x.book(0, 4096), -2);
        busy("judge tape", x -> x.judge(6, 0), -1);
        busy("judge sort", x -> x.judge(1, 0), -12);
        busy("trace", x -> x.trace(20), -1);
        busy("taken k", x -> x.taken(0, 7), -2);
        busy("taken saint", x -> x.taken(3, 0), -11);
        busy("taken", x -> x.taken(0, 1), -12);
        busy("count", x -> x.count(7), -2);
        busy("tape", x -> x.tape(6, 0, 1), -1);
        busy("tape sort", x -> x.tape(0, 5, 1), -2);
        busy("tape n", x -> x.tape(0, 0, 61), -2);
        busy("tape size", x -> x.tape(0, 0, -1), -14);
        busy("item tape", x -> x.item(6, 0, 1), -1);
        busy("item nothing", x -> x.item(2, 0, 1), -11);
        busy("item place", x -> x.item(0, 3, 1), -13);
        busy("read", x -> x.read(0, 3), NO);
        busy("shift tape", x -> x.shift(0, 0, 6, 0, 1), -1);
        busy("shift nothing", x -> x.shift(0, 0, 2, 0, 1), -11);
        busy("shift cast", x -> x.shift(1, 0, 0, 0, 1), -12);
        busy("shift place", x -> x.shift(1, 0, 1, 1, 4), -13);
        busy("shift place", x -> x.shift(1, -1, 1, 0, 2), -13);
        busy("shift place", x -> x.shift(1, 0, 1, -1, 2), -13);
    }

    private static void refusedFull() {
        c.says("FULL (-4)");
        full("saint", x -> x.saint(0, 0, 0), -4);
        full("feed", x -> x.feed('w'), -4);
        full("order", x -> x.order(), -4);
        full("see", x -> x.see(0, 0, 0), -4);
        full("plan", x -> x.plan(0, 0), -4);
        full("book", x -> x.book(0, 0), -4);
    }

    private static void refusedNew() {
        c.says("STATE (-3) as told");
        Twins t = new Twins(new LoofahSaints(), new LoofahSaints());
        t.due("undo", t.called.undo(), -3);
        Twins late = new Twins(late(), late());
        late.due("pass", late.called.pass(1), -3);
    }

    private static LoofahSaints late() {
        LoofahSaints x = Check.with(new int[][] {{0, 0, ALL}}, ALL);
        for (int i = 0; i < 166; i++) {
            x.pass(60);
        }
        x.pass(39);
        x.peg(0, 0);
        return x;
    }

    private static void ask(String call, ToLongFunction<LoofahSaints> run) {
        Twins t = new Twins(busy(), busy());
        long first = run.applyAsLong(t.called);
        t.due(call + ", asked again", run.applyAsLong(t.called), first);
    }

    private static void asked() {
        c.says("what is asked changes nothing");
        for (int what = 0; what < 34; what++) {
            int w = what;
            ask("of " + w, x -> x.of(1, w));
            ask("told " + w, x -> x.told(w));
        }
        for (int n = 0; n <= 60; n += 30) {
            int days = n;
            ask("on " + n, x -> x.on(days, 0));
            ask("on " + n, x -> x.on(days, 11));
            ask("on " + n, x -> x.on(days, 21));
            ask("mean " + n, x -> x.mean(days, 0));
        }
        ask("shared", x -> x.shared(0));
        ask("shared", x -> x.shared(11));
        for (int n = 1; n < 4; n++) {
            int of = n;
            ask("scrubbed " + n, x -> x.scrubbed(1, of, -1));
            ask("scrubbed " + n, x -> x.scrubbed(1, of, 0));
        }
        for (int s = 0; s < 3; s++) {
            int saint = s;
            ask("holed " + s, x -> x.holed(saint, 0));
            ask("can " + s, x -> x.can(saint, 1));
        }
        ask("odds", x -> x.odds(0, 1, 0));
        ask("ends", x -> x.ends(0));
        ask("ends", x -> x.ends(1));
        ask("looked", x -> x.looked());
        ask("judge", x -> x.judge(0, 0));
        ask("trace", x -> x.trace(0));
        ask("taken", x -> x.taken(1, 3));
        ask("count", x -> x.count(0));
        ask("read", x -> x.read(0, 1));
    }

    private static void rowsOfAnswers() {
        c.says("the first that a call's words name");
        LoofahSaints x = full();
        c.due("saint: kind, v, full", x.saint(7, 10, 4096), -1);
        c.due("saint: v, full", x.saint(6, 10, 0), -2);
        c.due("set: what, n", x.set(0, 2, -1), -1);
        c.due("novice: what, doctrines", x.novice(0, 2, -1), -1);
        c.due("row: part, n, kind", x.row(0, 4, 10), -1);
        c.due("row: n, kind", x.row(0, 3, 10), -2);
        c.due("feed: sign, full", x.feed(128), -2);
        c.due("on: what, n", x.on(61, 1), -1);
        c.due("scrubbed: k, n", x.scrubbed(0, 4, 3), -1);
        c.due("scrubbed: n, beyond", x.scrubbed(0, 0, 2), -2);
        c.due("see: novice, doctrines, full", x.see(0, 4, 4096), -1);
        c.due("see: doctrines, full", x.see(0, 3, 4096), -2);
        c.due("plan: saint, full", x.plan(3, 6), -1);
        c.due("book: novice, doctrines, full", x.book(4, 4096), -1);
        c.due("book: doctrines, full", x.book(3, 4096), -2);
        c.due("taken: k, saint", x.taken(6, 7), -2);
        c.due("taken: saint, kind", x.taken(6, 6), -11);
        c.due("tape: tape, sort, n", x.tape(6, 5, -1), -1);
        c.due("tape: sort, n", x.tape(0, 5, -1), -2);
        c.due("item: tape, nothing, place", x.item(6, -1, 0), -1);
        c.due("item: nothing, place", x.item(0, -1, 0), -11);
        x.set(0, 1, 99);
        c.due("use: novice, thread", x.use(0, 4), -1);
        LoofahSaints y = late();
        c.due("pass: n, day", y.pass(61), -2);
        c.due("pass: day", y.pass(60), -3);
    }

    private static void answersBelowZero() {
        c.says("Where it may be below 0, -10001 stands for NONE");
        LoofahSaints x = Check.with(new int[][] {{0, 0, 0}});
        c.due("grit -1 is no refusal", Check.order(x, "soft 4 p=0"), 0);
        c.due("grit -1", x.of(0, 6), -1);
        c.due("no such saint", x.of(1, 6), -10001);
        c.due("no such number of it", x.of(0, 9), -10001);
        for (int n : new int[] {MIN, -1, 1, MAX}) {
            c.due("saint " + n, x.of(n, 6), -10001);
        }
    }

    private static void numbersOfAnswers() {
        c.says("NONE (-1) no such number; BAD (-2) a number is not as told; STATE (-3) as told; FULL (-4)");
        LoofahSaints x = full();
        c.due("none", x.use(0, 4), LoofahSaints.NONE);
        c.due("bad", x.set(0, 1, 100), LoofahSaints.BAD);
        x.set(0, 1, 99);
        c.due("state", x.use(0, 0), LoofahSaints.STATE);
        c.due("full", x.saint(0, 0, 0), LoofahSaints.FULL);
        c.due("no", x.odds(12, 0, 0), LoofahSaints.NO);
        c.due("NONE", LoofahSaints.NONE, -1);
        c.due("BAD", LoofahSaints.BAD, -2);
        c.due("STATE", LoofahSaints.STATE, -3);
        c.due("FULL", LoofahSaints.FULL, -4);
        c.due("NO", LoofahSaints.NO, MIN * 4294967296L);
    }

    private static void hostsRefusals() {
        c.says("The host's refusals: NOTHING (-11): nothing is there; CAST (-12): another sort or KIND; PLACE (-13): no "
            + "such place; SIZE (-14): a size below 0");
        LoofahSaints x = busy();
        c.due("an item of nothing", x.item(2, 0, 0), -11);
        c.due("a shift of nothing", x.shift(2, 0, 0, 0, 0), -11);
        c.due("a shift to nothing", x.shift(0, 0, 2, 0, 0), -11);
        c.due("no such saint taken", x.taken(3, 0), -11);
        c.due("another sort shifted", x.shift(0, 0, 1, 0, 0), -12);
        c.due("another sort judged", x.judge(1, 0), -12);
        c.due("another kind taken", x.taken(0, 6), -12);
        c.due("no such place of an item", x.item(0, 3, 0), -13);
        c.due("no such place below 0", x.item(0, -1, 0), -13);
        c.due("no such place of a shift", x.shift(0, 0, 0, 0, 4), -13);
        c.due("a size below 0", x.tape(0, 0, -1), -14);
    }
}
