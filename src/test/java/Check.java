/** Counts the answers of a test that are as due, and prints those that are not. */
final class Check {
    private final String name;
    private int right;
    private int wrong;

    Check(String name) {
        this.name = name;
    }

    void due(String call, long got, long want) {
        if (got == want) {
            right++;
        } else {
            wrong++;
            System.out.println(name + ": " + call + " answered " + got + ", due is " + want);
        }
    }

    /** Ends the program; with 1, if an answer was not as due. */
    void end() {
        System.out.println(name + ": " + right + " answers as due, " + wrong + " not");
        if (wrong > 0 || right == 0) {
            System.exit(1);
        }
    }

    static void feed(ShellLines x, String text) {
        for (int i = 0; i < text.length(); i++) {
            x.feed(text.charAt(i));
        }
    }

    /** What line() answers to a text. */
    static int line(ShellLines x, String text) {
        feed(x, text);
        return x.line();
    }

    /** A new object with these LINES. */
    static ShellLines with(String... texts) {
        ShellLines x = new ShellLines();
        for (String text : texts) {
            if (line(x, text) < 0) {
                throw new IllegalStateException("no LINE: " + text);
            }
        }
        return x;
    }

    /** OUT of the latest RUN, as a text. */
    static String out(ShellLines x) {
        StringBuilder out = new StringBuilder();
        for (int k = 0; k < x.told(0); k++) {
            out.append(k > 0 ? " " : "").append(x.told(40 + k));
        }
        return out.toString();
    }

    /** A RUN of a LINE: OUT, STATUS and READS. */
    void runs(ShellLines x, int line, String out, long status, long reads) {
        x.run(line);
        String got = out(x) + " : " + x.told(1) + " " + x.told(2);
        String want = out + " : " + status + " " + reads;
        due("the run of " + line + " with " + got + " for " + want, got.equals(want) ? 1 : 0, 1);
    }

    /** A RUN of a LINE with this text, on a new object with NAMES 0 and 1 having these VALUES. */
    void runs(String text, int a, int b, String out, long status, long reads) {
        ShellLines x = with(text);
        x.value(0, a);
        x.value(1, b);
        x.run(0);
        String got = out(x) + " : " + x.told(1) + " " + x.told(2);
        String want = out + " : " + status + " " + reads;
        due(text + " with " + got + " for " + want, got.equals(want) ? 1 : 0, 1);
    }
}
