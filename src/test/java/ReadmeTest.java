import java.io.IOException;
import java.lang.reflect.Method;
import java.lang.reflect.Modifier;
import java.nio.file.Files;
import java.nio.file.Path;
import java.util.regex.Matcher;
import java.util.regex.Pattern;

/** README.md: its program does what it says, no call is left out, and what is named is there. */
public final class ReadmeTest {
    private static final Check c = new Check();

    public static void main(String[] args) throws IOException, InterruptedException {
        String readme = Files.readString(Path.of("README.md"));
        program(readme);
        calls(readme);
        for (String path : new String[] {"src/main/java/LoofahSaints.java", "src/test/java", ".ci/run", "../shared/tests"}) {
            due(path + " is named", readme.contains(path));
            due(path + " is there", Files.exists(Path.of(path)));
        }
        c.end();
    }

    private static void due(String what, boolean holds) {
        c.due(what, holds ? 1 : 0, 1);
    }

    /** What stands in the first block of a kind; nothing, if there is none. */
    private static String block(String readme, String kind) {
        Matcher m = Pattern.compile("(?s)```" + kind + "\n(.*?)```").matcher(readme);
        return m.find() ? m.group(1) : "";
    }

    private static void program(String readme) throws IOException, InterruptedException {
        Path folder = Files.createTempDirectory("readme");
        Path source = Files.writeString(folder.resolve("Steam.java"), block(readme, "java"));
        Path printed = folder.resolve("printed");
        String out = folder.toString();
        c.due("javac", run(printed, "javac", "-d", out, "src/main/java/LoofahSaints.java", source.toString()), 0);
        c.due("java", run(printed, "java", "-cp", out, "Steam"), 0);
        String got = Files.readString(printed);
        due("prints " + got, !got.isEmpty() && got.equals(block(readme, "text")));
        try (java.util.stream.Stream<Path> made = Files.walk(folder)) {
            made.sorted(java.util.Comparator.reverseOrder()).forEach(path -> path.toFile().delete());
        }
    }

    private static int run(Path printed, String... command) throws IOException, InterruptedException {
        return new ProcessBuilder(command).redirectErrorStream(true).redirectOutput(printed.toFile()).start().waitFor();
    }

    private static void calls(String readme) {
        for (Method m : LoofahSaints.class.getDeclaredMethods()) {
            if (!Modifier.isPublic(m.getModifiers())) continue;
            due(m.getName() + " is named", readme.contains("`" + m.getName() + "`"));
        }
        for (String name : new String[] {"NONE", "BAD", "STATE", "FULL", "NO"}) {
            due(name + " is named", readme.contains("`" + name + "`"));
        }
    }
}
