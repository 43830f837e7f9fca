import java.io.IOException;
import java.nio.file.Files;
import java.nio.file.Path;
import java.util.ArrayList;
import java.util.Arrays;
import java.util.List;
import java.util.regex.Matcher;
import java.util.regex.Pattern;

/**
 * Each sentence of DOC.md is held by a test: what the tests say(..) stands in the document, word by word, and no part
 * of the document is left over that no test says, but for the parts told here.
 */
public final class SentencesTest {
    private static final Path DOC = Path.of("../shared/DOC.md");
    private static final Path TESTS = Path.of("src/test/java");
    private static final Pattern SAYS = Pattern.compile("C\\.says\\(((?:\\s*\\+?\\s*\"[^\"]*\")+)\\);");
    private static final Pattern QUOTED = Pattern.compile("\"([^\"]*)\"");
    /** Headings, the face (RulesTest looks at it), and what promises nothing. */
    private static final String[] NOT_SAID = {
        "# ShellLines", "## What it is", "## The public face", "## Terms", "text", "java", "## Promise \\d+: [\\w ]+",
        "Command shell of composed functions: .*? an image\\.", "==== [123]", "public final class ShellLines \\{", "public ShellLines\\(\\);",
        "(public )?(int|long) \\w+\\([\\w ,]*\\)[;:]", "Ahead of the calls [\\w, ]+ the interface says: ---- [\\w, ]+\\.",
        "## Not promised .*"};
    private static final Check C = new Check("SentencesTest");

    public static void main(String[] args) throws IOException {
        if (!Files.exists(DOC)) {
            System.out.println("SentencesTest: " + DOC + " is not there, nothing is looked at");
            return;
        }
        String doc = plain(Files.readString(DOC));
        boolean[] said = new boolean[doc.length()];
        for (String words : allSaid()) {
            C.due("\"" + words + "\" stands in the document", mark(doc, said, words) ? 1 : 0, 1);
        }
        for (String pattern : NOT_SAID) {
            Matcher matcher = Pattern.compile(pattern).matcher(doc);
            while (matcher.find()) {
                Arrays.fill(said, matcher.start(), matcher.end(), true);
            }
        }
        leftOver(doc, said);
        C.end();
    }

    /** A text with one blank where there are more, or line ends, and without what sets it. */
    private static String plain(String text) {
        return text.replace("`", "").replaceAll("\\s+", " ").trim();
    }

    private static List<String> allSaid() throws IOException {
        List<String> all = new ArrayList<>();
        Path[] files;
        try (var found = Files.list(TESTS)) {
            files = found.filter(file -> file.toString().endsWith("Test.java")).sorted().toArray(Path[]::new);
        }
        for (Path file : files) {
            Matcher says = SAYS.matcher(Files.readString(file));
            while (says.find()) {
                StringBuilder words = new StringBuilder();
                Matcher quoted = QUOTED.matcher(says.group(1));
                while (quoted.find()) {
                    words.append(quoted.group(1));
                }
                all.add(plain(words.toString()));
            }
        }
        return all;
    }

    private static boolean mark(String doc, boolean[] said, String words) {
        boolean stands = false;
        for (int at = doc.indexOf(words); at >= 0; at = doc.indexOf(words, at + 1)) {
            Arrays.fill(said, at, at + words.length(), true);
            stands = true;
        }
        return stands;
    }

    private static void leftOver(String doc, boolean[] said) {
        int from = 0;
        for (int i = 0; i <= doc.length(); i++) {
            if (i == doc.length() || said[i]) {
                String left = doc.substring(from, i);
                if (left.matches("(?s).*[A-Za-z0-9].*")) {
                    C.due("what no test says: \"" + left.trim() + "\"", 1, 0);
                }
                from = i + 1;
            }
        }
    }
}
