import java.lang.reflect.Method;
import java.util.ArrayList;
import java.util.Comparator;
import java.util.List;
import java.util.Random;

/** Runs of calls by numbered seeds, on the class and on the Model: all answers are alike. */
public final class ModelTest {
    private static final int RUNS = 400, CALLS = 512;
    private static final String[] PARTS = {"scrub ", "soft ", "wear ", " ", ";", "p=1", "k>2", "v<5", "w=0", "t=1", "d<6",
        "t=0", "!", "(", ")", "&", "|", "1", "23", "7", "p", "=", "99 "};

    public static void main(String[] args) throws Exception {
        Check c = new Check();
        List<Method> calls = new ArrayList<>();
        for (Method m : LoofahSaints.class.getDeclaredMethods()) {
            if (java.lang.reflect.Modifier.isPublic(m.getModifiers())) calls.add(m);
        }
        calls.sort(Comparator.comparing(Method::getName));
        for (int run = 0; run < RUNS; run++) {
            new ModelTest(run, c, calls).go();
        }
        c.end();
    }

    private final Random random;
    private final int run;
    private final Check c;
    private final List<Method> calls;
    private final LoofahSaints x = new LoofahSaints();
    private final Model model = new Model();
    private int made = 0;

    private ModelTest(int run, Check c, List<Method> calls) {
        this.run = run;
        this.c = c;
        this.calls = calls;
        random = new Random(run);
    }

    private void go() throws Exception {
        int saints = random.nextInt(7);
        for (int s = 0; s < saints; s++) {
            make("saint", random.nextInt(7), random.nextInt(10), set());
        }
        for (int n = 0; n < 4; n++) {
            make("novice", n, 0, set());
            if (random.nextInt(3) == 0) make("novice", n, 1, 1 << random.nextInt(12));
        }
        while (made < CALLS) {
            int what = random.nextInt(20);
            if (what == 0 && made < CALLS - 101) {
                tellOrder(random.nextInt(4) == 0 ? noise() : order());
            } else if (what == 1) {
                seeSo();
            } else if (what == 2) {
                make("judge", random.nextInt(6), random.nextInt(4) - 1);
            } else {
                any(calls.get(random.nextInt(calls.size())));
            }
        }
    }

    private void make(String name, long... args) throws Exception {
        made++;
        for (Method m : calls) {
            if (!m.getName().equals(name)) continue;
            Object[] given = new Object[args.length];
            for (int i = 0; i < args.length; i++) {
                if (m.getParameterTypes()[i] == int.class) given[i] = (int) args[i];
                else given[i] = args[i];
            }
            long got = ((Number) m.invoke(x, given)).longValue();
            c.due("run " + run + " call " + made + " " + name + java.util.Arrays.toString(args), got,
                model.answer(name, args));
        }
    }

    private void any(Method m) throws Exception {
        String name = m.getName();
        if (name.equals("order") || name.equals("feed") && random.nextInt(8) != 0) return;
        if ((name.equals("undo") || name.equals("image")) && random.nextInt(3) != 0) return;
        long[] args = new long[m.getParameterCount()];
        for (int i = 0; i < args.length; i++) {
            args[i] = number();
        }
        if (name.equals("saint")) args = new long[] {small(7), small(10), set()};
        if (name.equals("set")) args = new long[] {small(6), small(2), random.nextBoolean() ? set() : small(100)};
        if (name.equals("novice")) args = new long[] {small(4), small(2), random.nextBoolean() ? set() : 0};
        if (name.equals("use") || name.equals("peg")) args = new long[] {small(6), small(4)};
        if (name.equals("row")) args = new long[] {small(6), small(4), small(10)};
        if (name.equals("of")) args = new long[] {small(6), small(14)};
        if (name.equals("told")) args = new long[] {small(34)};
        if (name.equals("on")) args = new long[] {small(61), random.nextBoolean() ? 10 + small(4) : 20 + small(6)};
        if (name.equals("pass")) args = new long[] {small(random.nextInt(6) == 0 ? 61 : 4)};
        if (name.equals("shared")) args = new long[] {random.nextBoolean() ? 0 : 10 + small(6)};
        if (name.equals("scrubbed")) args = new long[] {small(4), 1 + small(3), small(4) - 1};
        if (name.equals("odds")) args = new long[] {small(12), small(4), small(2)};
        if (name.equals("mean")) args = new long[] {small(61), small(2)};
        if (name.equals("see")) args = new long[] {small(6), small(4), set()};
        if (name.equals("holed") || name.equals("can")) args = new long[] {small(6), small(2)};
        if (name.equals("plan")) args = new long[] {small(4), random.nextBoolean() ? small(6) : 10 * small(6) + small(4)};
        if (name.equals("book")) args = new long[] {small(4), random.nextBoolean() ? now() : set()};
        if (name.equals("act")) args = new long[] {small(6), small(3), number()};
        if (name.equals("tape")) args = new long[] {small(6), small(5), small(10)};
        if (name.equals("item")) args = new long[] {small(6), small(8), random.nextBoolean() ? now() : random.nextLong()};
        if (name.equals("read")) args = new long[] {small(6), small(8)};
        if (name.equals("shift")) args = new long[] {small(6), small(5), small(6), small(5), small(5)};
        make(name, args);
    }

    /** What is ON some NOVICE: so some of a BOOK and a TAPE are as it is. */
    private int now() {
        return x.told(10 + random.nextInt(4));
    }

    /** A number below an end, now and then one a bit off. */
    private int small(int end) {
        return random.nextInt(25) == 0 ? number() : random.nextInt(end);
    }

    private int number() {
        int[] edges = {-2, -1, 0, 1, 2, 4, 5, 6, 7, 10, 14, 60, 61, 99, 100, 4095, 4096, Integer.MAX_VALUE,
            Integer.MIN_VALUE};
        return edges[random.nextInt(edges.length)];
    }

    private int set() {
        int set = random.nextInt(4096);
        return random.nextBoolean() ? set : random.nextBoolean() ? set | random.nextInt(4096) : set & random.nextInt(4096);
    }

    private void seeSo() throws Exception {
        int saint = random.nextInt(6), novice = random.nextInt(4);
        int takes = x.of(saint, 10 + novice);
        make("see", random.nextInt(6) == 0 ? -1 : saint, novice, Math.max(takes, 0));
        make("holed", saint, random.nextInt(2));
        make("can", saint, random.nextInt(2));
    }

    private void tellOrder(String text) throws Exception {
        for (int i = 0; i < text.length() && i < 100; i++) {
            make("feed", text.charAt(i));
        }
        make("order");
        make("told", 1);
    }

    private String noise() {
        StringBuilder s = new StringBuilder(random.nextBoolean() ? "" : order());
        if (s.length() > 0) {
            int at = random.nextInt(s.length());
            s.replace(at, at + random.nextInt(3), PARTS[random.nextInt(PARTS.length)]);
            return s.toString();
        }
        for (int i = random.nextInt(12); i >= 0; i--) {
            s.append(PARTS[random.nextInt(PARTS.length)]);
        }
        return s.toString();
    }

    private String order() {
        StringBuilder s = new StringBuilder();
        for (int i = random.nextInt(4); i >= 0; i--) {
            int kind = random.nextInt(3);
            s.append(kind == 0 ? "scrub " : kind == 1 ? "soft " : "wear ").append(random.nextInt(kind == 2 ? 30 : 9));
            if (kind != 2) s.append(' ').append(e(0));
            if (i > 0) s.append(';');
        }
        return s.toString();
    }

    private String e(int depth) {
        int way = random.nextInt(depth > 3 ? 2 : 9);
        if (way == 2) return "!" + e(depth + 1);
        if (way == 3) return "(" + e(depth + 1) + ")";
        if (way == 4) return e(depth + 1) + "&" + e(depth + 1);
        if (way == 5) return e(depth + 1) + "|" + e(depth + 1);
        if (way == 6) return "(" + e(depth + 1) + "|" + e(depth + 1) + ")&" + e(depth + 1);
        return "" + "pkvwtd".charAt(random.nextInt(6)) + "<=>".charAt(random.nextInt(3)) + random.nextInt(10);
    }
}
