import java.io.IOException;
import java.lang.reflect.Method;
import java.lang.reflect.Modifier;
import java.net.URL;
import java.net.URLClassLoader;
import java.nio.file.Files;
import java.nio.file.Path;
import java.util.Comparator;
import java.util.List;
import java.util.regex.Matcher;
import java.util.regex.Pattern;
import java.util.stream.Stream;

/**
 * README.md says what is so: its examples are compiled and run as they stand there,
 * and each answer that stands behind a call, in a comment, has to be what is answered.
 */
public final class ReadmeTest {
    private static final Pattern BLOCK = Pattern.compile("```java\n(.*?)```", Pattern.DOTALL);
    private static final Pattern ANSWERED =
            Pattern.compile("(?:int (\\w+) = )?(crowd\\..+|Double\\..+);\\s+// (-?[\\d.]*\\d|BAD|NONE|NO|FULL)\\b.*");
    private static final int FEWEST_ANSWERS = 30;

    private static int answers = 0;
    private static int wrong = 0;

    private static void hold(boolean holds, String what) {
        if (holds) return;
        wrong++;
        System.out.println(what);
    }

    /** The examples call it; its name stands in what source() writes. */
    public static void due(String line, double got, double want) {
        answers++;
        hold(got == want, "README.md has: " + line + " but the answer is " + got);
    }

    private static String statement(String line) {
        Matcher answered = ANSWERED.matcher(line);
        if (!answered.matches()) {
            hold(!line.contains("//"), "README.md tells an answer that can't be read: " + line);
            return line;
        }
        String named = answered.group(1);
        String want = answered.group(3).matches("[A-Z]+") ? "WhisperCrowd." + answered.group(3) : answered.group(3);
        String got = named == null ? answered.group(2) : named;
        String made = named == null ? "" : "int " + named + " = " + answered.group(2) + "; ";
        return made + "ReadmeTest.due(\"" + line + "\", " + got + ", " + want + ");";
    }

    private static String source(String name, String example) {
        StringBuilder text = new StringBuilder("public class " + name + " {\n");
        text.append("public static void main(String[] args) {\n");
        for (String line : example.split("\n")) text.append(statement(line)).append('\n');
        return text.append("}\n}\n").toString();
    }

    private static void runs(Path folder, String name, String example) throws Exception {
        Path file = folder.resolve(name + ".java");
        Files.writeString(file, source(name, example));
        String own = System.getProperty("java.class.path");
        Process javac = new ProcessBuilder("javac", "-cp", own, "-d", folder.toString(), file.toString())
                .inheritIO().start();
        boolean compiled = javac.waitFor() == 0;
        hold(compiled, "an example of README.md does not compile");
        if (!compiled) return;
        try (URLClassLoader loader = new URLClassLoader(new URL[] {folder.toUri().toURL()})) {
            loader.loadClass(name).getMethod("main", String[].class).invoke(null, (Object) new String[0]);
        }
    }

    private static void theExamples(String page) throws Exception {
        Path folder = Files.createTempDirectory("readme");
        try {
            Matcher block = BLOCK.matcher(page);
            for (int i = 0; block.find(); i++) runs(folder, "Example" + i, block.group(1));
        } finally {
            remove(folder);
        }
        hold(answers >= FEWEST_ANSWERS, "README.md tells " + answers + " answers alone");
    }

    private static void remove(Path folder) throws IOException {
        try (Stream<Path> all = Files.walk(folder)) {
            List<Path> deepestFirst = all.sorted(Comparator.reverseOrder()).toList();
            for (Path path : deepestFirst) Files.delete(path);
        }
    }

    private static void theCalls(String page) {
        for (Method m : WhisperCrowd.class.getDeclaredMethods()) {
            if (!Modifier.isPublic(m.getModifiers())) continue;
            int takes = m.getParameterCount();
            String numbers = takes == 0 ? "" : "\\w+" + ", \\w+".repeat(takes - 1);
            String row = "\\| `" + m.getName() + "\\(" + numbers + "\\)` \\|";
            hold(Pattern.compile(row).matcher(page).find(), "README.md has no row of " + m.getName());
        }
    }

    private static void theTests(String page) throws IOException {
        try (Stream<Path> files = Files.list(Path.of("src/test/java"))) {
            for (Path file : files.toList()) {
                String name = file.getFileName().toString().replace(".java", "");
                hold(page.contains("`" + name + "`"), "README.md does not name " + name);
            }
        }
    }

    public static void main(String[] args) throws Exception {
        String page = Files.readString(Path.of("README.md"));
        theExamples(page);
        theCalls(page);
        theTests(page);
        System.out.println(wrong == 0 ? "README.md says what is so" : wrong + " things in README.md are not so");
        if (wrong != 0) System.exit(1);
    }
}
