import java.lang.management.ManagementFactory;
import java.lang.reflect.Method;
import java.lang.reflect.Modifier;
import java.util.Random;

/** Any arguments in any state: nothing is thrown, what is asked changes nothing, no call fills the room. */
public final class WildTest {
    private static final Check c = new Check();
    private static final int[] EDGES = {0, 1, 2, 3, 4, 5, 6, 7, 9, 10, 11, 13, 20, 25, 30, 33, 59, 60, 61, 98, 99, 100,
        4095, 4096, 9999, -1, -2, -9, -10, -100, Integer.MAX_VALUE, Integer.MIN_VALUE, Integer.MAX_VALUE - 10,
        Integer.MIN_VALUE + 10, Integer.MIN_VALUE + 20, 1 << 30, 1 << 31};

    public static void main(String[] args) throws Exception {
        for (int seed = 0; seed < 60; seed++) {
            wild(new Random(seed), seed);
        }
        room();
        c.end();
    }

    /** Far beyond 512 calls, too: an answer is free there, but it comes. */
    private static void wild(Random random, int seed) throws Exception {
        LoofahSaints x = new LoofahSaints();
        Method[] all = LoofahSaints.class.getDeclaredMethods();
        for (int i = 0; i < 3000; i++) {
            Method m = all[random.nextInt(all.length)];
            if (!Modifier.isPublic(m.getModifiers())) continue;
            Object[] args = new Object[m.getParameterCount()];
            for (int a = 0; a < args.length; a++) {
                int n = random.nextInt(4) == 0 ? EDGES[random.nextInt(EDGES.length)] : random.nextInt(7);
                args[a] = n;
                if (m.getParameterTypes()[a] == long.class) args[a] = (long) n;
            }
            String call = "seed " + seed + " " + m.getName() + java.util.Arrays.toString(args);
            try {
                m.invoke(x, args);
                c.due(call, 0, 0);
            } catch (java.lang.reflect.InvocationTargetException e) {
                c.due(call + " threw " + e.getCause(), 1, 0);
            }
        }
    }

    private static long made() {
        return ((com.sun.management.ThreadMXBean) ManagementFactory.getThreadMXBean())
            .getThreadAllocatedBytes(Thread.currentThread().getId());
    }

    /** Six of the dearest saints, by one of the longest orders. */
    private static LoofahSaints dear() {
        LoofahSaints x = new LoofahSaints();
        for (int s = 0; s < 6; s++) {
            x.saint(6, s, 0);
            x.peg(s, s % 4);
            x.novice(s % 4, 0, 4095);
            x.novice(s % 4, 1, 4095);
        }
        Check.order(x, "scrub 9 " + "p=1|".repeat(22) + "p=1");
        for (int i = 0; i < 5; i++) {
            x.see(0, i % 4, 7);
        }
        for (int i = 0; i < 8; i++) {
            x.plan(0, 0);
        }
        x.tape(0, 1, 60);
        return x;
    }

    private static long askAll(LoofahSaints x, int times) {
        long sum = 0;
        for (int i = 0; i < times; i++) {
            for (int what = 0; what < 34; what++) sum += x.told(what);
            sum += x.shared(0) + x.scrubbed(0, 3, -1) + x.holed(0, 0) + x.can(0, 0) + x.on(60, 0);
            sum += x.odds(0, 0, 0) + x.mean(60, 0) + x.ends(0) + x.looked() + x.judge(0, 0) + x.act(0, 2, 5);
            sum += x.of(0, 7) + x.shift(0, 0, 0, 1, 30) + x.image() + x.undo() + x.tape(1, 3, 60) + x.feed(1) + x.order();
        }
        return sum;
    }

    private static void room() {
        LoofahSaints x = dear();
        c.due("the long order stands", x.count(1), 1);
        long sum = askAll(x, 2);
        long before = made();
        sum += askAll(x, 10);
        long calls = made() - before;
        before = made();
        dear();
        long made = made() - before;
        // a room of 7.3 million elements holds what is made at first and 512 calls that make nothing
        c.due("520 calls made " + calls + " bytes, " + sum, calls < 4096 ? 0 : 1, 0);
        c.due("a new object has " + made + " bytes", made < 100_000 ? 0 : 1, 0);
    }
}
