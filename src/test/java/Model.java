import java.util.ArrayList;
import java.util.Arrays;
import java.util.List;
import java.util.TreeSet;
import java.util.regex.Matcher;
import java.util.regex.Pattern;

/** The document once more, in the plainest words and slowly, to be compared with the class. */
final class Model {
    static final int NONE = -1, BAD = -2, STATE = -3, FULL = -4;
    static final long NO = Long.MIN_VALUE;

    static final class S {
        int i, kind, v, holes, wear, peg = -1;
        boolean wet;
        int[] row = new int[4];

        S twin() {
            S s = new S();
            s.i = i;
            s.kind = kind;
            s.v = v;
            s.holes = holes;
            s.wear = wear;
            s.peg = peg;
            s.wet = wet;
            s.row = row.clone();
            return s;
        }
    }

    /** What the image keeps. */
    static final class W {
        List<S> saints = new ArrayList<>();
        List<TreeSet<Integer>> on = new ArrayList<>();
        int[] grows = new int[4];
        int day;
        List<int[]> seen = new ArrayList<>(), plan = new ArrayList<>(), book = new ArrayList<>();
        int holds = -1;

        W twin() {
            W w = new W();
            for (S s : saints) w.saints.add(s.twin());
            for (TreeSet<Integer> o : on) w.on.add(new TreeSet<>(o));
            w.grows = grows.clone();
            w.day = day;
            w.seen.addAll(seen);
            w.plan.addAll(plan);
            w.book.addAll(book);
            w.holds = holds;
            return w;
        }
    }

    W w = new W();
    W kept;
    String text = "";
    List<String> orders = new ArrayList<>();
    List<Integer> trace = new ArrayList<>();
    long[][] tapes = new long[6][];
    int[] sorts = {-1, -1, -1, -1, -1, -1};

    Model() {
        for (int n = 0; n < 4; n++) w.on.add(new TreeSet<>());
    }

    static TreeSet<Integer> set(int bits) {
        TreeSet<Integer> all = new TreeSet<>();
        for (int d = 0; d < 12; d++) if ((bits & 1 << d) != 0) all.add(d);
        return all;
    }

    static int bits(TreeSet<Integer> set) {
        int bits = 0;
        for (int d : set) bits += 1 << d;
        return bits;
    }

    boolean has(int s) {
        return 0 <= s && s < w.saints.size();
    }

    static boolean in(int n, int least, int most) {
        return least <= n && n <= most;
    }

    // ---- orders

    /** Whether the text is AN ORDER, by making tests, then all around them, one sign. */
    static boolean isOrder(String text) {
        String[] parts = text.split(";", -1);
        if (parts.length > 10) return false;
        for (String p : parts) {
            if (p.matches("wear [0-9]{1,2}")) continue;
            Matcher m = Pattern.compile("(scrub|soft) [0-9]{1,2} (.*)", Pattern.DOTALL).matcher(p);
            if (!m.matches() || !isE(m.group(2))) return false;
        }
        return true;
    }

    /** A letter stands for a part: A has no ( and no !, B has some, C has some within one other, and so on. */
    private static boolean isE(String e) {
        if (e.matches("(?s).*[A-Z].*")) return false;
        String s = e.replaceAll("[pkvwtd][<=>][0-9]{1,2}(?![0-9])", "A");
        if (!s.matches("[A()!&|]*")) return false;
        for (int i = 0; i < 200; i++) {
            String was = s;
            for (char c = 'A'; c < 'E'; c++) {
                s = s.replace("!" + c, "" + (char) (c + 1)).replace("(" + c + ")", "" + (char) (c + 1));
            }
            if (!s.equals(was)) continue;
            s = join(s, '&');
            if (!s.equals(was)) continue;
            s = join(s, '|');
            if (s.equals(was)) break;
        }
        return s.matches("[A-E]");
    }

    private static String join(String s, char by) {
        Matcher m = Pattern.compile("([A-E])[" + by + "]([A-E])").matcher(s);
        if (!m.find()) return s;
        String more = m.group(1).compareTo(m.group(2)) > 0 ? m.group(1) : m.group(2);
        return s.substring(0, m.start()) + more + s.substring(m.end());
    }

    /** Whether AN ORDER begins so: some way to go on makes it one. */
    static boolean begins(String text) {
        if (text.isEmpty()) return true;
        for (String whole : new String[] {"scrub 1 p=1", "soft 1 p=1", "wear 1"}) {
            for (int i = 0; i <= whole.length(); i++) {
                for (String close : new String[] {"", ")", "))", ")))", "))))"}) {
                    if (isOrder(text + whole.substring(i) + close)) return true;
                }
            }
        }
        return false;
    }

    static int fault(String text) {
        for (int i = 0; i < text.length(); i++) {
            if (!begins(text.substring(0, i + 1))) return i;
        }
        return text.length();
    }

    private static boolean holds(String e, S s, int day) {
        int depth = 0;
        for (char by : new char[] {'|', '&'}) {
            for (int i = 0; i < e.length(); i++) {
                char c = e.charAt(i);
                depth += c == '(' ? 1 : c == ')' ? -1 : 0;
                if (depth != 0 || c != by) continue;
                boolean left = holds(e.substring(0, i), s, day), right = holds(e.substring(i + 1), s, day);
                return by == '|' ? left || right : left && right;
            }
        }
        if (e.charAt(0) == '!') return !holds(e.substring(1), s, day);
        if (e.charAt(0) == '(') return holds(e.substring(1, e.length() - 1), s, day);
        int value = new int[] {s.i, s.kind, s.v, s.wear / 10, s.wet ? 1 : 0, day % 10}["pkvwtd".indexOf(e.charAt(0))];
        int n = Integer.parseInt(e.substring(2));
        return e.charAt(1) == '<' ? value < n : e.charAt(1) == '=' ? value == n : value > n;
    }

    int hard(W w) {
        int hard = 6;
        if (w.holds < 0) return hard;
        for (String p : orders.get(w.holds).split(";")) {
            if (p.startsWith("wear")) hard = Integer.parseInt(p.substring(5));
        }
        return hard;
    }

    int sum(W w, S s) {
        int sum = 3;
        if (w.holds < 0) return sum;
        for (String p : orders.get(w.holds).split(";")) {
            String[] of = p.split(" ");
            if (of[0].equals("wear") || !holds(of[2], s, w.day)) continue;
            sum += Integer.parseInt(of[1]) * (of[0].equals("scrub") ? 1 : -1);
        }
        return sum;
    }

    int grit(W w, S s) {
        int sum = sum(w, s);
        if (s.kind == 1) return sum + s.v;
        if (s.kind == 2) return sum / 2;
        if (s.kind == 4) return s.wet ? sum + s.v : 0;
        if (s.kind == 5) return sum / 2 + (w.day % 2 == 1 ? 1 : 0);
        if (s.kind == 6) return sum + s.row[w.day % 4];
        return sum;
    }

    TreeSet<Integer> takes(W w, S s, int novice) {
        TreeSet<Integer> off = new TreeSet<>();
        if (s.wear == 99) return off;
        int grit = grit(w, s);
        for (int d : w.on.get(novice)) {
            boolean hole = (s.holes & 1 << d) != 0;
            if (hole == (s.kind == 3 || s.kind == 6)) continue;
            if (off.size() < grit) off.add(d);
        }
        return off;
    }

    TreeSet<Integer> use(W w, S s, int novice) {
        TreeSet<Integer> off = takes(w, s, novice);
        w.on.get(novice).removeAll(off);
        s.wear = Math.min(99, s.wear + (s.wet ? hard(w) / 2 : hard(w)));
        s.wet = true;
        return off;
    }

    W days(W from, int n) {
        W w = from.twin();
        for (int i = 0; i < n; i++) day(w);
        return w;
    }

    void day(W w) {
        List<S> dry = new ArrayList<>();
        for (S s : w.saints) {
            if (s.peg < 0 || s.wear == 99) dry.add(s);
            else use(w, s, s.peg);
        }
        for (S s : dry) s.wet = false;
        for (int n = 0; n < 4; n++) w.on.get(n).addAll(set(w.grows[n]));
        w.day++;
    }

    static int onAll(W w) {
        int all = 0;
        for (TreeSet<Integer> o : w.on) all += o.size();
        return all;
    }

    static int wearOfAll(W w) {
        int all = 0;
        for (S s : w.saints) all += s.wear;
        return all;
    }

    /** The best row of SHARED, and behind it how much; a SAINT that is left out counts as a THREAD. */
    int[] share(int without) {
        int size = w.saints.size();
        int[] digit = {0, 1, 2, 3, 9};
        int[][] takes = new int[size][4];
        for (int s = 0; s < size; s++) {
            for (int n = 0; n < 4; n++) takes[s][n] = takes(w, w.saints.get(s), n).size();
        }
        int[] best = null;
        int ways = (int) Math.pow(5, size);
        for (int way = 0; way < ways; way++) {
            int[] row = new int[size + 1];
            int rest = way, seen = 0;
            boolean may = true;
            for (int s = size - 1; s >= 0; s--) {
                row[s] = digit[rest % 5];
                rest /= 5;
                if (row[s] == 9) continue;
                if ((seen & 1 << row[s]) != 0 || s == without || w.saints.get(s).wear == 99) may = false;
                seen |= 1 << row[s];
                row[size] += takes[s][row[s]];
            }
            if (may && (best == null || row[size] > best[size])) best = row;
        }
        return best;
    }

    int[] dear() {
        int[] dear = {-5, -5};
        for (S s : w.saints) {
            if (s.wear == 99) continue;
            int[] row = share(s.i);
            if (dear[0] == -5 || row[row.length - 1] < dear[1]) dear = new int[] {s.i, row[row.length - 1]};
        }
        return dear;
    }

    int[] scrub(int novice, int n) {
        int size = w.saints.size();
        int[] best = null;
        for (int i = 0; i < (int) Math.pow(10, n); i++) {
            int[] row = new int[n + 1];
            int rest = i;
            TreeSet<Integer> used = new TreeSet<>();
            for (int k = n - 1; k >= 0; k--) {
                row[k] = rest % 10;
                rest /= 10;
                if (row[k] < size) used.add(row[k]);
            }
            if (used.size() < n) continue;
            W then = w.twin();
            for (int k = 0; k < n; k++) {
                if (then.saints.get(row[k]).wear < 99) use(then, then.saints.get(row[k]), novice);
            }
            row[n] = then.on.get(novice).size();
            if (best == null || row[n] < best[n]) best = row;
        }
        return best;
    }

    boolean asSeen(int saint) {
        for (int[] row : w.seen) {
            if (row[0] == saint && bits(takes(w, w.saints.get(saint), row[1])) != row[2]) return false;
        }
        return true;
    }

    int supposed(int saint, int what, boolean holes) {
        S s = w.saints.get(saint);
        int was = holes ? s.holes : s.v;
        int many = 0, least = -5;
        for (int n = holes ? 4095 : 9; n >= 0; n--) {
            if (holes) s.holes = n;
            else s.v = n;
            if (!asSeen(saint)) continue;
            many++;
            least = n;
        }
        if (holes) s.holes = was;
        else s.v = was;
        return what == 0 ? many : least;
    }

    static long part(int above, int below, int part) {
        int common = java.math.BigInteger.valueOf(above).gcd(java.math.BigInteger.valueOf(below)).intValue();
        return (part == 0 ? above : below) / common;
    }

    // ---- acts, as Java itself does them

    class Saint {
        final S s;
        Saint(S s) { this.s = s; }
        int hangs(int x) { trace.add(10); return x + s.i; }
        int hums(int x) { trace.add(11); return hangs(x) - s.v; }
        int tells(int x) { trace.add(12); return hums(x) * 2; }
    }

    class Founder extends Saint {
        Founder(S s) { super(s); }
        @Override int hums(int x) { trace.add(20); return super.hums(x) ^ 6; }
    }

    class Abbot extends Saint {
        Abbot(S s) { super(s); }
        @Override int hangs(int x) { trace.add(30); return super.hangs(x * 3); }
    }

    class Heretic extends Saint {
        Heretic(S s) { super(s); }
        @Override int tells(int x) { trace.add(40); return super.tells(x) + hums(1); }
    }

    class Pith extends Founder {
        Pith(S s) { super(s); }
        @Override int hangs(int x) { trace.add(50); return -super.hangs(x); }
        @Override int hums(int x) { trace.add(51); return super.hums(x + 1); }
    }

    class Rattle extends Abbot {
        Rattle(S s) { super(s); }
        @Override int tells(int x) { trace.add(60); return super.tells(x - s.i); }
    }

    class Told extends Heretic {
        Told(S s) { super(s); }
        @Override int hums(int x) { trace.add(70); return super.hums(x) + super.hangs(2); }
        @Override int hangs(int x) { trace.add(71); return super.hangs(x) ^ s.v; }
    }

    Saint acting(S s) {
        switch (s.kind) {
            case 0: return new Saint(s);
            case 1: return new Founder(s);
            case 2: return new Abbot(s);
            case 3: return new Heretic(s);
            case 4: return new Pith(s);
            case 5: return new Rattle(s);
            default: return new Told(s);
        }
    }

    // ---- the calls, in the order of the face; a[] and l[] are their arguments

    long answer(String call, long[] l) {
        int[] a = new int[6];
        for (int i = 0; i < l.length; i++) a[i] = (int) l[i];
        switch (call) {
            case "saint": return saint(a[0], a[1], a[2]);
            case "of": return of(a[0], a[1]);
            case "set": return set(a[0], a[1], a[2]);
            case "peg": return peg(a[0], a[1]);
            case "novice": return novice(a[0], a[1], a[2]);
            case "use": {
                if (!has(a[0]) || !in(a[1], 0, 3)) return NONE;
                return w.saints.get(a[0]).wear == 99 ? STATE : bits(use(w, w.saints.get(a[0]), a[1]));
            }
            case "row": return row(a[0], a[1], a[2]);
            case "feed": {
                if (!in(a[0], 0, 127)) return BAD;
                if (text.length() == 100) return FULL;
                text += (char) a[0];
                return text.length();
            }
            case "order": return order();
            case "told": return told(a[0]);
            case "pass": {
                if (!in(a[0], 0, 60)) return BAD;
                if (w.day + a[0] > 9999) return STATE;
                w = days(w, a[0]);
                return w.day;
            }
            case "on": return on(a[0], a[1]);
            case "shared": {
                if (a[0] != 0 && !has(a[0] - 10)) return NONE;
                int[] row = share(-1);
                if (a[0] == 0) return row[row.length - 1];
                return row[a[0] - 10] == 9 ? -5 : row[a[0] - 10];
            }
            case "scrubbed": {
                if (!in(a[0], 0, 3) || !in(a[2], -1, 2)) return NONE;
                if (!in(a[1], 1, 3)) return BAD;
                if (a[2] >= a[1] || w.saints.size() < a[1]) return -5;
                int[] row = scrub(a[0], a[1]);
                return a[2] < 0 ? row[a[1]] : row[a[2]];
            }
            case "see": return see(a[0], a[1], a[2]);
            case "holed": return !has(a[0]) || !in(a[1], 0, 1) ? NONE : supposed(a[0], a[1], true);
            case "can": return !has(a[0]) || !in(a[1], 0, 1) ? NONE : supposed(a[0], a[1], false);
            case "odds": return odds(a[0], a[1], a[2]);
            case "mean": {
                if (!in(a[0], 0, 60) || !in(a[1], 0, 1) || w.saints.isEmpty()) return NO;
                return part(wearOfAll(days(w, a[0])), w.saints.size(), a[1]);
            }
            case "plan": return plan(a[0], a[1]);
            case "ends": return ends(a[0]);
            case "book": return book(a[0], a[1]);
            case "looked": return looked();
            case "judge": return judge(a[0], a[1]);
            case "image": {
                kept = w.twin();
                return w.saints.size();
            }
            case "undo": {
                if (kept == null) return STATE;
                w = kept.twin();
                return w.saints.size();
            }
            case "act": {
                trace.clear();
                if (!has(a[0]) || !in(a[1], 0, 2)) return 0;
                Saint s = acting(w.saints.get(a[0]));
                return a[1] == 0 ? s.hangs(a[2]) : a[1] == 1 ? s.hums(a[2]) : s.tells(a[2]);
            }
            case "trace": return in(a[0], 0, Math.min(20, trace.size()) - 1) ? trace.get(a[0]) : NONE;
            case "taken": {
                if (!in(a[1], 0, 6)) return BAD;
                if (!has(a[0])) return -11;
                Class<?>[] kinds = {Saint.class, Founder.class, Abbot.class, Heretic.class, Pith.class, Rattle.class,
                    Told.class};
                S s = w.saints.get(a[0]);
                return kinds[a[1]].isInstance(acting(s)) ? s.kind : -12;
            }
            case "count": {
                if (!in(a[0], 0, 6)) return BAD;
                return new int[] {w.saints.size(), orders.size(), w.seen.size(), w.plan.size(), w.book.size(),
                    text.length(), trace.size()}[a[0]];
            }
            case "tape": return tape(a[0], a[1], a[2]);
            case "item": return item(a[0], a[1], l[2]);
            case "read": {
                if (!in(a[0], 0, 5) || tapes[a[0]] == null || !in(a[1], 0, tapes[a[0]].length - 1)) return NO;
                return tapes[a[0]][a[1]];
            }
            case "shift": return shift(a);
            default: throw new IllegalArgumentException(call);
        }
    }

    private int saint(int kind, int v, int holes) {
        if (!in(kind, 0, 6)) return NONE;
        if (!in(v, 0, 9) || !in(holes, 0, 4095)) return BAD;
        if (w.saints.size() == 6) return FULL;
        S s = new S();
        s.i = w.saints.size();
        s.kind = kind;
        s.v = v;
        s.holes = holes;
        w.saints.add(s);
        return s.i;
    }

    private int of(int saint, int what) {
        if (!has(saint) || !in(what, 0, 7) && !in(what, 10, 13)) return -10001;
        S s = w.saints.get(saint);
        if (what >= 10) return bits(takes(w, s, what - 10));
        if (what == 7) {
            W then = w.twin();
            int times = 0;
            while (times < 200 && then.saints.get(saint).wear < 99) {
                use(then, then.saints.get(saint), 0);
                times++;
            }
            return times;
        }
        return new int[] {s.kind, s.v, s.holes, s.wear, s.wet ? 1 : 0, s.peg < 0 ? -5 : s.peg, grit(w, s)}[what];
    }

    private int set(int saint, int what, int n) {
        if (!has(saint) || !in(what, 0, 1)) return NONE;
        if (!in(n, 0, what == 0 ? 4095 : 99)) return BAD;
        S s = w.saints.get(saint);
        int was = what == 0 ? s.holes : s.wear;
        if (what == 0) s.holes = n;
        else s.wear = n;
        return was;
    }

    private int peg(int saint, int novice) {
        if (!has(saint) || !in(novice, -1, 3)) return NONE;
        int was = w.saints.get(saint).peg;
        w.saints.get(saint).peg = novice;
        return was < 0 ? -5 : was;
    }

    private int novice(int novice, int what, int doctrines) {
        if (!in(novice, 0, 3) || !in(what, 0, 1)) return NONE;
        if (!in(doctrines, 0, 4095)) return BAD;
        int was = what == 0 ? bits(w.on.get(novice)) : w.grows[novice];
        if (what == 0) w.on.set(novice, set(doctrines));
        else w.grows[novice] = doctrines;
        return was;
    }

    private int row(int saint, int part, int n) {
        if (!has(saint) || !in(part, 0, 3)) return NONE;
        if (!in(n, 0, 9)) return BAD;
        S s = w.saints.get(saint);
        if (s.kind != 6) return STATE;
        int was = s.row[part];
        s.row[part] = n;
        return was;
    }

    private int order() {
        if (orders.size() == 6) return FULL;
        String t = text;
        text = "";
        if (!isOrder(t)) return -10 - fault(t);
        orders.add(t);
        w.holds = orders.size() - 1;
        return w.holds;
    }

    private int told(int what) {
        if (in(what, 10, 13)) return bits(w.on.get(what - 10));
        if (in(what, 20, 23)) return w.grows[what - 20];
        if (in(what, 30, 33)) {
            for (int n = 0; n <= 60; n++) {
                if (days(w, n).on.get(what - 30).isEmpty()) return n;
            }
            return -5;
        }
        if (what == 3) {
            int threads = 0;
            for (S s : w.saints) if (s.wear == 99) threads += 1 << s.i;
            return threads;
        }
        if (what == 4 || what == 5) return dear()[what - 4];
        return what == 0 ? w.day : what == 1 ? hard(w) : what == 2 ? onAll(w) : NONE;
    }

    private int on(int n, int what) {
        if (what != 0 && !in(what, 10, 13) && !(what >= 20 && has(what - 20))) return NONE;
        if (!in(n, 0, 60)) return BAD;
        W then = days(w, n);
        if (what == 0) return onAll(then);
        return what < 20 ? bits(then.on.get(what - 10)) : then.saints.get(what - 20).wear;
    }

    private int see(int saint, int novice, int doctrines) {
        if (saint == -1) {
            w.seen.clear();
            return 0;
        }
        if (!has(saint) || !in(novice, 0, 3)) return NONE;
        if (!in(doctrines, 0, 4095)) return BAD;
        if (w.seen.size() == 5) return FULL;
        w.seen.add(new int[] {saint, novice, doctrines});
        return w.seen.size();
    }

    private long odds(int doctrine, int novice, int part) {
        if (!in(doctrine, 0, 11) || !in(novice, 0, 3) || !in(part, 0, 1) || w.saints.isEmpty()) return NO;
        int away = 0;
        for (S s : w.saints) {
            W then = w.twin();
            if (s.wear < 99) use(then, then.saints.get(s.i), novice);
            if (!then.on.get(novice).contains(doctrine)) away++;
        }
        return part(away, w.saints.size(), part);
    }

    private int plan(int what, int n) {
        if (what == -1) {
            w.plan.clear();
            return 0;
        }
        if (!in(what, 0, 3)) return NONE;
        if (what == 1 && (n < 0 || !has(n / 10) || !in(n % 10, 0, 3))) return NONE;
        if (what > 1 && !has(n)) return NONE;
        if (w.plan.size() == 8) return FULL;
        w.plan.add(new int[] {what, n});
        return w.plan.size();
    }

    private int ends(int what) {
        if (!in(what, 0, 1)) return NONE;
        W then = w.twin();
        for (int[] row : w.plan) {
            if (row[0] == 0) day(then);
            if (row[0] == 1 && then.saints.get(row[1] / 10).wear < 99) use(then, then.saints.get(row[1] / 10), row[1] % 10);
            if (row[0] == 2) then.saints.get(row[1]).wear = 0;
            if (row[0] == 3) then.saints.get(row[1]).peg = -1;
        }
        return what == 0 ? onAll(then) : wearOfAll(then);
    }

    private int book(int novice, int doctrines) {
        if (novice == -1) {
            w.book.clear();
            return 0;
        }
        if (!in(novice, 0, 3)) return NONE;
        if (!in(doctrines, 0, 4095)) return BAD;
        if (w.book.size() == 8) return FULL;
        w.book.add(new int[] {novice, doctrines});
        return w.book.size();
    }

    private int looked() {
        for (int i = 0; i < w.book.size(); i++) {
            if (bits(w.on.get(w.book.get(i)[0])) != w.book.get(i)[1]) return i;
        }
        return -5;
    }

    private int judge(int tape, int i) {
        if (!in(tape, 0, 5)) return NONE;
        if (sorts[tape] == -1) return 100;
        if (sorts[tape] != 1) return -12;
        if (i < 0 || i > tapes[tape].length) return 100;
        long[] rest = Arrays.copyOfRange(tapes[tape], i, tapes[tape].length);
        for (int n = 0; n < 4; n++) {
            if (n == rest.length) return 100 + n;
            if (rest[n] != bits(w.on.get(n))) return n;
        }
        return -5;
    }

    private int tape(int tape, int sort, int n) {
        if (!in(tape, 0, 5)) return NONE;
        if (!in(sort, -1, 4) || sort >= 0 && n > 60) return BAD;
        if (sort >= 0 && n < 0) return -14;
        sorts[tape] = sort;
        tapes[tape] = sort < 0 ? null : new long[n];
        return 1;
    }

    private int item(int tape, int i, long v) {
        if (!in(tape, 0, 5)) return NONE;
        if (tapes[tape] == null) return -11;
        if (!in(i, 0, tapes[tape].length - 1)) return -13;
        int bits = new int[] {8, 16, 32, 64, 64}[sorts[tape]];
        tapes[tape][i] = sorts[tape] == 4 ? (v == 0 ? 0 : 1) : v << 64 - bits >> 64 - bits;
        return 1;
    }

    private int shift(int[] a) {
        if (!in(a[0], 0, 5) || !in(a[2], 0, 5)) return NONE;
        if (tapes[a[0]] == null || tapes[a[2]] == null) return -11;
        if (sorts[a[0]] != sorts[a[2]]) return -12;
        long i = a[1], j = a[3], n = a[4];
        if (n < 0 || i < 0 || j < 0 || i + n > tapes[a[0]].length || j + n > tapes[a[2]].length) return -13;
        long[] before = tapes[a[0]].clone();
        for (int k = 0; k < n; k++) tapes[a[2]][(int) j + k] = before[(int) i + k];
        return (int) n;
    }
}
