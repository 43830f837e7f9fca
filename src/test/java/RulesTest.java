import java.lang.reflect.Constructor;
import java.lang.reflect.Field;
import java.lang.reflect.Method;
import java.lang.reflect.Modifier;
import java.nio.file.Files;
import java.nio.file.Path;
import java.util.Arrays;
import java.util.TreeSet;
import java.util.regex.Matcher;
import java.util.regex.Pattern;

/** The face of the document, and LANGUAGE.md as far as a look at the class and its source shows it. */
public final class RulesTest {
    private static final Check C = new Check("RulesTest");
    private static final String[] FACE = {
        "int alike(int,int)", "int book(int,int)", "int count(int)", "int define(int,int)", "int feed(int)",
        "int fits(int,int,int)", "int image()", "int item(int,int,long)", "int job(int)", "int judge(int,int)",
        "int line()", "int looked()", "int of(int,int)", "int plan(int,int)", "int run(int)", "int see(int,int)",
        "int shift(int,int,int,int,int)", "int stop(int)", "int tape(int,int,int)", "int trap(int)", "int undo()",
        "long ends(int)", "long mean(int,int)", "long odds(int,int,int)", "long on(int,int)", "long read(int,int)",
        "long told(int)", "long turn(int)", "long value(int,int)"};
    private static final String[] FORBIDDEN = {
        "throw", "throws", "try", "catch", "finally", "synchronized", "assert", "import", "package", "yield", "native",
        "volatile", "transient", "equals", "hashCode", "toString", "ordinal", "valueOf", "getClass", "Object"};

    public static void main(String[] args) throws Exception {
        face();
        members();
        String source = Files.readString(Path.of("src/main/java/ShellLines.java"));
        source(source);
        order(source);
        C.end();
    }

    private static void is(String what, boolean so) {
        C.due(what, so ? 1 : 0, 1);
    }

    private static void face() {
        TreeSet<String> methods = new TreeSet<>();
        TreeSet<String> names = new TreeSet<>();
        for (Method m : ShellLines.class.getDeclaredMethods()) {
            if (Modifier.isPublic(m.getModifiers())) {
                String types = Arrays.toString(m.getParameterTypes()).replaceAll("[\\[\\] ]", "");
                methods.add(m.getReturnType() + " " + m.getName() + "(" + types + ")");
                names.add(m.getName());
                is(m + " is no static one", !Modifier.isStatic(m.getModifiers()));
            }
        }
        is("the face " + methods, methods.equals(new TreeSet<>(Arrays.asList(FACE))));
        is("the class is public and final", Modifier.isPublic(ShellLines.class.getModifiers()) && Modifier.isFinal(ShellLines.class.getModifiers()));
        Constructor<?>[] made = ShellLines.class.getDeclaredConstructors();
        is("one public constructor", made.length == 1 && Modifier.isPublic(made[0].getModifiers()) && made[0].getParameterCount() == 0);
        for (Class<?> type : ShellLines.class.getDeclaredClasses()) {
            is(type + " is static", Modifier.isStatic(type.getModifiers()) || type.isInterface());
            is(type + " is not public", !Modifier.isPublic(type.getModifiers()) && !Modifier.isProtected(type.getModifiers()));
            for (Method m : type.getDeclaredMethods()) {
                is(m + " bears no name of the face", !names.contains(m.getName()));
            }
        }
        is("twelve classes at most", ShellLines.class.getDeclaredClasses().length + 1 <= 12);
    }

    private static void members() {
        TreeSet<String> constants = new TreeSet<>();
        for (Field f : ShellLines.class.getDeclaredFields()) {
            if (Modifier.isPrivate(f.getModifiers())) {
                is(f + " is final, if it is static", !Modifier.isStatic(f.getModifiers()) || Modifier.isFinal(f.getModifiers()));
            } else {
                constants.add(f.getName());
                is(f + " is a public constant", Modifier.toString(f.getModifiers()).equals("public static final"));
            }
        }
        is("the constants", constants.equals(new TreeSet<>(Arrays.asList("NONE", "BAD", "STATE", "FULL", "NO"))));
        for (Method m : ShellLines.class.getDeclaredMethods()) {
            is(m + " is public or private", m.isSynthetic() || (m.getModifiers() & (Modifier.PUBLIC | Modifier.PRIVATE)) != 0);
        }
    }

    private static void source(String whole) {
        for (char sign : whole.toCharArray()) {
            if (sign > 126 || sign < 32 && sign != '\n') {
                is("the source's sign " + (int) sign, false);
            }
        }
        String code = whole.replaceAll("(?s)/\\*.*?\\*/", "").replaceAll("//.*", "").replaceAll("\"[^\"]*\"", "\"\"");
        for (String word : FORBIDDEN) {
            is("no " + word, !Pattern.compile("\\b" + word + "\\b").matcher(code).find());
        }
        is("no lambda", !code.contains("->"));
        is("no method reference", !code.contains("::"));
        is("no endless loop", !Pattern.compile("while \\(true\\)|for \\(;;\\)").matcher(code).find());
        lengths(code);
    }

    /** The calls stand in the document's order, and ahead of them what the interface says there. */
    private static void order(String whole) {
        String[] order = {
            "// ---- lines\n", "int feed(", "int line(", "int of(", "int define(", "int trap(", "long value(",
            "// ---- runs, jobs\n", "int run(", "long told(", "int job(", "long turn(", "int stop(",
            "// ---- what would be\n", "long on(", "int see(", "int fits(", "int alike(", "long odds(", "long mean(",
            "// ---- plans, books\n", "int plan(", "long ends(", "int book(", "int looked(",
            "// ---- judging, the image, tapes\n", "int judge(", "int image(", "int undo(", "int count(", "int tape(", "int item(",
            "long read(", "int shift("};
        int at = whole.indexOf("public ShellLines()");
        for (String part : order) {
            int next = whole.indexOf((part.startsWith("/") ? "    " : "    public ") + part, Math.max(at, 0));
            is(part.trim() + " stands behind what is ahead of it in the document", at >= 0 && next > at);
            at = next;
        }
    }

    /** No method has more than 60 lines, nor more than seven parameters. */
    private static void lengths(String code) {
        Matcher head = Pattern.compile("(?m)^( +)(?:(?:public|private|static|final) )*[\\w\\[\\]]+ (\\w+)\\(([^)]*)\\) \\{$").matcher(code);
        while (head.find()) {
            int end = code.indexOf("\n" + head.group(1) + "}", head.end());
            int lines = code.substring(head.end(), end).split("\n").length;
            is(head.group(2) + " has " + lines + " lines", lines <= 60);
            is(head.group(2) + " has few parameters", head.group(3).split(",").length <= 7);
        }
    }
}
