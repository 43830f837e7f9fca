import java.io.IOException;
import java.lang.reflect.Method;
import java.lang.reflect.Modifier;
import java.net.URL;
import java.net.URLClassLoader;
import java.nio.file.Files;
import java.nio.file.Path;
import java.util.ArrayList;
import java.util.List;
import java.util.regex.Matcher;
import java.util.regex.Pattern;
import javax.tools.JavaCompiler;
import javax.tools.ToolProvider;

/**
 * README.md's examples, compiled as they stand, answer what stands behind them; each call of the face is told in its
 * group, in the document's order, and has an example; and each test is told.
 */
public final class ReadmeTest {
    private static final Path README = Path.of("README.md");
    private static final Path TESTS = Path.of("src/test/java");
    private static final Path MADE = Path.of("build/readme");
    private static final Pattern BLOCK = Pattern.compile("(?s)```java\n(.*?)```");
    private static final Pattern EXAMPLE = Pattern.compile("(\\w.*\\));\\s+// (NO\\b|-?\\d+)\\b.*");
    private static final String[][] GROUPS = {
        {"Lines", "feed", "line", "of", "define", "trap", "value"},
        {"Runs, jobs", "run", "told", "job", "turn", "stop"},
        {"What would be", "on", "see", "fits", "alike", "odds", "mean"},
        {"Plans, books", "plan", "ends", "book", "looked"},
        {"Judging, the image, tapes", "judge", "image", "undo", "count", "tape", "item", "read", "shift"}};
    private static final String[] CONSTANTS = {"`NONE` | -1", "`BAD` | -2", "`STATE` | -3", "`FULL` | -4", "`NO` | `Long.MIN_VALUE`"};
    private static final Check C = new Check("ReadmeTest");

    public static void main(String[] args) throws Exception {
        String readme = Files.readString(README);
        examples(readme);
        groups(readme);
        tests(readme);
        for (String constant : CONSTANTS) {
            is(constant + " is told", readme.contains(constant));
        }
        is("how to run the tests is told", readme.contains("bash .ci/run"));
        C.end();
    }

    private static void is(String what, boolean so) {
        C.due(what, so ? 1 : 0, 1);
    }

    private static void examples(String readme) throws Exception {
        int examples = 0;
        for (Object[] row : run(program(readme))) {
            C.due("README.md's " + row[0], (Long) row[1], (Long) row[2]);
            examples++;
        }
        is("README.md has examples", examples > 0);
    }

    /** The examples as a program whose answers are rows of a call, what it answered and what is due. */
    private static String program(String readme) {
        StringBuilder methods = new StringBuilder();
        StringBuilder calls = new StringBuilder();
        Matcher blocks = BLOCK.matcher(readme);
        while (blocks.find()) {
            if (blocks.group(1).startsWith("static ")) {
                methods.append(blocks.group(1));
                continue;
            }
            for (String line : blocks.group(1).split("\n")) {
                calls.append(line.contains("//") ? looked(line) : line).append('\n');
            }
        }
        return "public class Readme {\n" + methods + "public static java.util.List<Object[]> answers() {\n"
                + "java.util.List<Object[]> rows = new java.util.ArrayList<>();\n" + calls + "return rows;\n}\n}\n";
    }

    private static String looked(String line) {
        Matcher example = EXAMPLE.matcher(line);
        if (!example.matches()) {
            is("an answer can be read behind: " + line, false);
            return "";
        }
        String call = example.group(1);
        String due = example.group(2).equals("NO") ? "ShellLines.NO" : example.group(2) + "L";
        return "rows.add(new Object[] {\"" + call.replace("\"", "'") + "\", (long) " + call + ", " + due + "});";
    }

    @SuppressWarnings("unchecked")
    private static List<Object[]> run(String program) throws Exception {
        JavaCompiler compiler = ToolProvider.getSystemJavaCompiler();
        if (compiler == null) {
            is("a compiler is there", false);
            return List.of();
        }
        Files.createDirectories(MADE);
        Path file = MADE.resolve("Readme.java");
        Files.writeString(file, program);
        String path = System.getProperty("java.class.path");
        if (compiler.run(null, System.out, System.out, "-cp", path, "-d", MADE.toString(), file.toString()) != 0) {
            is("README.md's examples are Java", false);
            return List.of();
        }
        try (URLClassLoader loader = new URLClassLoader(new URL[] {MADE.toUri().toURL()})) {
            return (List<Object[]>) loader.loadClass("Readme").getMethod("answers").invoke(null);
        }
    }

    /** Each group has its heading, and under it each of its calls with its parameters, one behind another. */
    private static void groups(String readme) {
        List<String> told = new ArrayList<>();
        int at = 0;
        for (String[] group : GROUPS) {
            at = behind(readme, "\n## " + group[0] + "\n", at);
            int end = readme.indexOf("\n## ", at);
            for (int i = 1; i < group.length; i++) {
                told.add(group[i]);
                at = behind(readme, "\n- `" + group[i] + "(" + parameters(group[i]) + ")`: ", at);
                is(group[i] + " is told under " + group[0], at < end);
                is(group[i] + " has an example", readme.contains(group[i].equals("line") ? "\nline(x, " : "x." + group[i] + "("));
            }
        }
        for (Method m : ShellLines.class.getDeclaredMethods()) {
            is(m.getName() + " is told", !Modifier.isPublic(m.getModifiers()) || told.contains(m.getName()));
        }
    }

    private static int behind(String readme, String words, int from) {
        int at = readme.indexOf(words, from);
        is(words.trim() + " stands in README.md behind what is ahead of it", at >= 0);
        return at >= 0 ? at + words.length() - 1 : from;
    }

    /** A call's parameters as the document's face names them. */
    private static String parameters(String call) {
        try {
            Matcher face = Pattern.compile("public (?:int|long) " + call + "\\(([^)]*)\\)").matcher(Files.readString(Path.of("src/main/java/ShellLines.java")));
            return face.find() ? face.group(1).replaceAll("(int|long) ", "") : "";
        } catch (IOException e) {
            return "";
        }
    }

    private static void tests(String readme) throws IOException {
        try (var files = Files.list(TESTS)) {
            for (Path file : files.sorted().toArray(Path[]::new)) {
                String name = file.getFileName().toString().replace(".java", "");
                is(name + " is told", !name.endsWith("Test") || readme.contains("`" + name + "`"));
            }
        }
        Matcher told = Pattern.compile("`(\\w+Test)`").matcher(readme);
        while (told.find()) {
            is(told.group(1) + " is there", Files.exists(TESTS.resolve(told.group(1) + ".java")));
        }
    }
}
