import java.io.IOException;
import java.lang.reflect.Constructor;
import java.lang.reflect.Field;
import java.lang.reflect.Method;
import java.lang.reflect.Modifier;
import java.nio.file.Files;
import java.nio.file.Path;
import java.util.ArrayList;
import java.util.List;
import java.util.TreeSet;

/** The public face, and of ../shared/LANGUAGE.md what can be looked at from outside or as words. */
public final class FaceTest {
    private static final Check c = new Check();
    private static final String[] FACE = {
        "int saint(int,int,int)", "int of(int,int)", "int set(int,int,int)", "int peg(int,int)",
        "int novice(int,int,int)", "int use(int,int)", "int row(int,int,int)", "int feed(int)", "int order()",
        "int told(int)", "int pass(int)", "int on(int,int)", "int shared(int)", "int scrubbed(int,int,int)",
        "int see(int,int,int)", "int holed(int,int)", "int can(int,int)", "long odds(int,int,int)",
        "long mean(int,int)", "int plan(int,int)", "int ends(int)", "int book(int,int)", "int looked()",
        "int judge(int,int)", "int image()", "int undo()", "int act(int,int,int)", "int trace(int)",
        "int taken(int,int)", "int count(int)", "int tape(int,int,int)", "int item(int,int,long)",
        "long read(int,int)", "int shift(int,int,int,int,int)",
    };

    public static void main(String[] args) throws IOException {
        constants();
        methods();
        members();
        String path = args.length > 0 ? args[0] : "src/main/java/LoofahSaints.java";
        source(path);
        recursion(path);
        c.end();
    }

    private static void due(String what, boolean holds) {
        c.due(what, holds ? 1 : 0, 1);
    }

    private static void constants() {
        c.due("NONE", LoofahSaints.NONE, -1);
        c.due("BAD", LoofahSaints.BAD, -2);
        c.due("STATE", LoofahSaints.STATE, -3);
        c.due("FULL", LoofahSaints.FULL, -4);
        c.due("NO", LoofahSaints.NO, Long.MIN_VALUE);
        TreeSet<String> open = new TreeSet<>();
        for (Field f : LoofahSaints.class.getDeclaredFields()) {
            if (!Modifier.isPrivate(f.getModifiers())) open.add(Modifier.toString(f.getModifiers()) + " " + f);
        }
        c.due("open fields " + open, open.size(), 5);
    }

    private static void methods() {
        TreeSet<String> due = new TreeSet<>(List.of(FACE));
        TreeSet<String> got = new TreeSet<>();
        TreeSet<String> names = new TreeSet<>();
        for (Method m : LoofahSaints.class.getDeclaredMethods()) {
            if (Modifier.isPrivate(m.getModifiers())) continue;
            StringBuilder s = new StringBuilder(m.getReturnType() + " " + m.getName() + "(");
            for (Class<?> p : m.getParameterTypes()) {
                s.append(s.charAt(s.length() - 1) == '(' ? "" : ",").append(p);
            }
            got.add(s + ")");
            names.add(m.getName());
            due(m + " is public, of an object", m.getModifiers() == Modifier.PUBLIC);
        }
        due("face " + got, got.equals(due));
        List<Class<?>> all = new ArrayList<>(List.of(LoofahSaints.class.getDeclaredClasses()));
        all.add(LoofahSaints.class);
        for (Class<?> k : all) {
            for (Method m : k.getDeclaredMethods()) {
                if (Modifier.isPrivate(m.getModifiers())) due(m + " has a name of its own", !names.contains(m.getName()));
                due(m + " has few parameters", m.getParameterCount() <= 7);
            }
        }
    }

    private static void members() {
        due("public, final", LoofahSaints.class.getModifiers() == (Modifier.PUBLIC | Modifier.FINAL));
        Constructor<?>[] made = LoofahSaints.class.getDeclaredConstructors();
        due("one constructor", made.length == 1 && made[0].getModifiers() == Modifier.PUBLIC
            && made[0].getParameterCount() == 0);
        Class<?>[] inside = LoofahSaints.class.getDeclaredClasses();
        due("few classes", inside.length <= 12);
        for (Class<?> k : inside) {
            due(k + " is static", Modifier.isStatic(k.getModifiers()));
            int fields = 0;
            for (Field f : k.getDeclaredFields()) {
                if (Modifier.isStatic(f.getModifiers())) due(f + " is final", Modifier.isFinal(f.getModifiers()));
                else fields++;
            }
            due(k + " has few fields", fields <= 20);
        }
    }

    private static void source(String path) throws IOException {
        String source = Files.readString(Path.of(path));
        String code = source.replaceAll("(?s)/\\*.*?\\*/", "").replaceAll("//[^\n]*", "");
        String[] not = {"throw", "throws", "try", "catch", "finally", "synchronized", "assert", "import", "package",
            "record", "volatile", "transient", "native", "strictfp", "var", "yield", "equals", "hashCode", "toString",
            "Object", "Runtime", "Thread", "System.(?!arraycopy\\()\\w+", "\\w+Exact", "\\w*Exception", "@\\w+"};
        for (String word : not) {
            due("no " + word, !java.util.regex.Pattern.compile("(?<![\\w])" + word + "(?![\\w])").matcher(code).find());
        }
        due("no lambda, no method reference", !code.contains("->") && !code.contains("::"));
        due("signs of 7 bits", source.chars().allMatch(sign -> sign < 128));
        int from = 0;
        String[] lines = source.split("\n");
        for (int i = 0; i < lines.length; i++) {
            due("line " + (i + 1) + " is short", lines[i].length() <= 120);
            if (lines[i].matches(" {4}( {4})?\\w[^=;]*\\(.*\\) \\{")) from = i;
            if (lines[i].matches(" {4}( {4})?\\}")) due("the method at line " + (from + 1) + " is short", i - from < 60);
            if (lines[i].matches(" {4}\\}")) from = i;
        }
    }

    /** A method that calls itself is private, and static, unless it and another one call one another. */
    private static void recursion(String path) throws IOException {
        String[] lines = Files.readString(Path.of(path)).split("\n");
        TreeSet<String> ways = new TreeSet<>();
        TreeSet<String> calling = new TreeSet<>();
        String header = "", name = "", within = "";
        for (String line : lines) {
            if (line.matches(" {4}private static final class .*")) within = line.trim() + " ";
            if (line.matches(" {4}( {4})?\\w[^=;]*\\(.*\\) \\{")) {
                header = line.trim();
                name = header.replaceAll("\\(.*", "").replaceAll(".* ", "");
                continue;
            }
            java.util.regex.Matcher m = java.util.regex.Pattern.compile("(?<![\\w.])(\\w+)\\(").matcher(line);
            while (m.find()) {
                ways.add(within + name + " calls " + m.group(1));
                if (m.group(1).equals(name)) calling.add(within + "/" + header + "/" + name);
            }
        }
        due("some call themselves", calling.size() > 0);
        for (String of : calling) {
            String[] part = of.split("/");
            boolean mutual = false;
            for (String way : ways) {
                String other = way.replaceAll(".* calls ", "");
                mutual |= way.startsWith(part[0] + part[2] + " calls ") && !other.equals(part[2])
                    && ways.contains(part[0] + other + " calls " + part[2]);
            }
            due(part[1] + " is private", part[1].startsWith("private "));
            due(part[1] + " calls itself and is static", mutual || part[1].startsWith("private static "));
        }
    }
}
