/** Counts the answers of a test that are as due, and prints those that are not. */
final class Check {
    private final String name;
    private int right;
    private int wrong;
    private String sentence;
    private int answersAhead;

    Check(String name) {
        this.name = name;
    }

    /** Words of DOC.md that the answers behind this call hold the program to; SentencesTest reads them. */
    void says(String words) {
        sentenceEnds();
        sentence = words;
        answersAhead = right + wrong;
    }

    private void sentenceEnds() {
        if (sentence != null && answersAhead == right + wrong) {
            wrong++;
            System.out.println(name + ": no answer is looked at for \"" + sentence + "\"");
        }
    }

    void due(String call, long got, long want) {
        if (got == want) {
            right++;
        } else {
            wrong++;
            System.out.println(name + ": " + call + " answered " + got + ", due is " + want);
            if (sentence != null) {
                System.out.println("    \"" + sentence + "\"");
            }
        }
    }

    /** Ends the program; with 1, if an answer was not as due. */
    void end() {
        sentenceEnds();
        System.out.println(name + ": " + right + " answers as due, " + wrong + " not");
        if (wrong > 0 || right == 0) {
            System.exit(1);
        }
    }

    static void feed(ShellLines x, String text) {
        for (int i = 0; i < text.length(); i++) {
            x.feed(text.charAt(i));
        }
    }

    /** What line() answers to a text. */
    static int line(ShellLines x, String text) {
        feed(x, text);
        return x.line();
    }

    /** A new object with these LINES. */
    static ShellLines with(String... texts) {
        ShellLines x = new ShellLines();
        for (String text : texts) {
            if (line(x, text) < 0) {
                throw new IllegalStateException("no LINE: " + text);
            }
        }
        return x;
    }

    /** A text on a new object is no LINE: its FAULT is told, THE TEXT is empty then, and a LINE can come. */
    void fault(String text, int place) {
        ShellLines x = new ShellLines();
        due("line of '" + text + "'", line(x, text), -10 - place);
        due("bytes behind '" + text + "'", x.count(5), 0);
        due("LINES behind '" + text + "'", x.count(0), 0);
        due("a LINE behind '" + text + "'", line(x, "ok"), 0);
    }

    /** Each of these texts on a new object is a LINE. */
    void reads(String... texts) {
        for (String text : texts) {
            due("line of '" + text + "'", line(new ShellLines(), text), 0);
        }
    }

    /** What a number of TURNS of a JOB answer. */
    void turns(ShellLines x, int job, long... want) {
        for (int i = 0; i < want.length; i++) {
            due("turn(" + job + ") for the time " + (i + 1), x.turn(job), want[i]);
        }
    }

    /** OUT of the latest RUN, as a text. */
    static String out(ShellLines x) {
        StringBuilder out = new StringBuilder();
        for (int k = 0; k < x.told(0); k++) {
            out.append(k > 0 ? " " : "").append(x.told(40 + k));
        }
        return out.toString();
    }

    /** A RUN of a LINE: OUT, STATUS and READS. */
    void runs(ShellLines x, int line, String out, long status, long reads) {
        x.run(line);
        String got = out(x) + " : " + x.told(1) + " " + x.told(2);
        String want = out + " : " + status + " " + reads;
        due("the run of " + line + " with " + got + " for " + want, got.equals(want) ? 1 : 0, 1);
    }

    /** A RUN of a LINE with this text, on a new object with NAMES 0 and 1 having these VALUES. */
    void runs(String text, int a, int b, String out, long status, long reads) {
        ShellLines x = with(text);
        x.value(0, a);
        x.value(1, b);
        x.run(0);
        String got = out(x) + " : " + x.told(1) + " " + x.told(2);
        String want = out + " : " + status + " " + reads;
        due(text + " with " + got + " for " + want, got.equals(want) ? 1 : 0, 1);
    }
}
