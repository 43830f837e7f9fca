/** Promises 1 to 7: a new object, THE TEXT, LINES, FUNCTIONS, THE TRAP, VALUES. */
public final class LinesTest {
    private static final Check C = new Check("LinesTest");

    public static void main(String[] args) {
        newObject();
        feeds();
        reads();
        faults();
        faultsOfWords();
        braces();
        full();
        tells();
        functions();
        traps();
        values();
        C.end();
    }

    private static void newObject() {
        ShellLines x = new ShellLines();
        for (int what = 0; what <= 5; what++) {
            C.due("count(" + what + ") at first", x.count(what), 0);
        }
        C.due("told(0) at first", x.told(0), 0);
        C.due("told(1) at first", x.told(1), 0);
        C.due("told(2) at first", x.told(2), 0);
        for (int n = 0; n < 5; n++) {
            C.due("told of a VALUE at first", x.told(10 + n), 0);
        }
        for (int f = 0; f < 3; f++) {
            C.due("told of a FUNCTION at first", x.told(20 + f), -5);
        }
        C.due("told(30) at first", x.told(30), -5);
        C.due("run(0) at first", x.run(0), -1);
        C.due("NO", ShellLines.NO, Long.MIN_VALUE);
        C.due("NONE", ShellLines.NONE, -1);
        C.due("BAD", ShellLines.BAD, -2);
        C.due("STATE", ShellLines.STATE, -3);
        C.due("FULL", ShellLines.FULL, -4);
    }

    private static void feeds() {
        ShellLines x = new ShellLines();
        C.due("feed(-1)", x.feed(-1), -2);
        C.due("feed(128)", x.feed(128), -2);
        C.due("feed(MAX)", x.feed(Integer.MAX_VALUE), -2);
        C.due("feed(MIN)", x.feed(Integer.MIN_VALUE), -2);
        C.due("bytes then", x.count(5), 0);
        C.due("feed(0)", x.feed(0), 1);
        C.due("feed(127)", x.feed(127), 2);
        C.due("line of other signs", x.line(), -10);
        for (int i = 1; i <= 100; i++) {
            C.due("feed " + i, x.feed('o'), i);
        }
        C.due("feed beyond 100", x.feed('o'), -4);
        C.due("a bad sign beyond 100", x.feed(128), -2);
        C.due("bytes then", x.count(5), 100);
        C.due("line of a long word", x.line(), -10);
        C.due("bytes then", x.count(5), 0);
        C.due("feed again", x.feed('o'), 1);
    }

    private static void reads() {
        ShellLines x = new ShellLines();
        C.due("echo", Check.line(x, "echo 1 22 333 $e"), 0);
        C.due("bytes behind a LINE", x.count(5), 0);
        C.due("all words", Check.line(x, "seq 9|add 1|mul 2|mod 7|keep 1|take 3;ok|sum|set e;fail 3"), 1);
        C.due("functions", Check.line(x, "f $p;g 1|sum&h $a/ok"), 2);
        C.due("sources behind others", Check.line(x, "ok|echo 1|seq 2|ok|fail 3|sum"), 3);
        C.due("a taker first", Check.line(x, "add 1"), 4);
        C.due("braces", Check.line(x, "{{{ok};ok}|add 1&ok}/{ok}"), 5);
        C.due("zeros ahead", Check.line(x, "echo 007"), 6);
        StringBuilder most = new StringBuilder("ok");
        for (int i = 0; i < 32; i++) {
            most.append(";ok");
        }
        C.due("98 bytes", Check.line(x, most.toString()), 7);
        C.due("pipes of those", x.of(7, 0), 33);
    }

    /** What line() answers to a text is FAULT of it. */
    private static void fault(String text, int place) {
        ShellLines x = new ShellLines();
        C.due("line of '" + text + "'", Check.line(x, text), -10 - place);
        C.due("bytes behind '" + text + "'", x.count(5), 0);
        C.due("LINES behind '" + text + "'", x.count(0), 0);
        C.due("a LINE behind '" + text + "'", Check.line(x, "ok"), 0);
    }

    private static void faults() {
        fault("", 0);
        fault(" ok", 0);
        fault("ok ", 2);
        fault("ok;", 3);
        fault("ok|", 3);
        fault("ok&&ok", 3);
        fault("ok||ok", 3);
        fault("ok | ok", 2);
        fault("ok;;ok", 3);
        fault(";ok", 0);
        fault("Seq 1", 0);
        fault("seq", 3);
        fault("seq ", 4);
        fault("seq  1", 4);
        fault("seq 1 2", 5);
        fault("seq 1234", 7);
        fault("seq -1", 4);
        fault("seq $", 5);
        fault("seq $f", 5);
        fault("seq $A", 5);
        fault("seq $pp", 6);
        fault("seq 1a", 5);
        fault("seq1", 3);
        fault("seq;", 3);
        fault("seq x", 4);
        fault("echo 1 2 3 4 5", 12);
        fault("echo 1 ", 7);
        fault("echo 1 |ok", 7);
        fault("echo 1 $", 8);
        fault("set", 3);
        fault("set ", 4);
        fault("set f", 4);
        fault("set $a", 4);
        fault("set 1", 4);
        fault("set ab", 5);
        fault("set p", 4);
        fault("ok 1", 2);
        fault("sum 1", 3);
        fault("ok\tok", 2);
        fault("ok|ok|ok|ok|ok|ok|ok", 17);
        fault("ok|ok|ok|ok|ok|ok|", 17);
        fault("fail", 4);
        fault("ok/{fail 2", 10);
    }

    private static void faultsOfWords() {
        fault("okk", 0);
        fault("ec", 0);
        fault("okz", 0);
        fault("oka", 0);
        fault("ok`", 2);
        fault("seq :", 4);
        fault("seq /", 4);
        fault("echo 1;se", 7);
        fault("ok|nope|ok", 3);
        fault("f", 1);
        fault("f ", 2);
        fault("f x", 2);
        fault("fg 1", 0);
        fault("ok|f 1", 3);
        fault("ok|g", 3);
        fault("ok;ok|h 1", 6);
        fault("ok|fail", 7);
        fault("p 1", 0);
        fault("a", 0);
        // What comes first from the first byte on.
        fault("seq 1234;nope", 7);
        fault("nope;seq 1234", 0);
    }

    private static void braces() {
        fault("{", 1);
        fault("{}", 1);
        fault("}", 0);
        fault("ok}", 2);
        fault("{ok", 3);
        fault("{ok;", 4);
        fault("{ok}}", 4);
        fault("{ok}ok", 4);
        fault("{ok}{ok}", 4);
        fault("{ok} ", 4);
        fault("ok|{ok}", 3);
        fault("{{{{ok}}}}", 3);
        fault("{ok;{{ok;{", 9);
        fault("{nope}", 1);
        fault("{ok|f 1}", 4);
        fault("{ok|ok|ok|ok|ok|ok|ok}", 18);
        fault("{ok}|ok|ok|ok|ok|ok|ok", 19);
    }

    private static void full() {
        ShellLines x = new ShellLines();
        for (int i = 0; i < 8; i++) {
            C.due("LINE " + i, Check.line(x, "echo " + i), i);
        }
        C.due("a ninth LINE", Check.line(x, "ok"), -4);
        C.due("THE TEXT stays", x.count(5), 2);
        C.due("a ninth LINE with a FAULT", Check.line(x, "k"), -4);
        C.due("THE TEXT stays", x.count(5), 3);
        C.due("LINES then", x.count(0), 8);
        C.runs(x, 7, "7", 0, 0);
        C.runs(x, 0, "0", 0, 0);
    }

    private static void tells() {
        ShellLines x = Check.with("ok", "ok|sum;seq 1&ok/ok", "{{{ok}}}", "{ok;{ok|sum}|take 1}|add 1;{ok}");
        long[][] want = {{1, 1, 0}, {4, 5, 0}, {1, 4, 3}, {2, 9, 2}};
        for (int line = 0; line < 4; line++) {
            for (int what = 0; what < 3; what++) {
                C.due("of(" + line + ", " + what + ")", x.of(line, what), want[line][what]);
            }
        }
        C.due("of(0, 3)", x.of(0, 3), -1);
        C.due("of(0, -1)", x.of(0, -1), -1);
        C.due("of(4, 0)", x.of(4, 0), -1);
        C.due("of(-1, 0)", x.of(-1, 0), -1);
        C.due("of(MAX, 0)", x.of(Integer.MAX_VALUE, 0), -1);
    }

    private static void functions() {
        ShellLines x = Check.with("ok", "f 1");
        C.due("define(0, 0)", x.define(0, 0), -5);
        C.due("define(0, 1)", x.define(0, 1), 0);
        C.due("define(2, 1)", x.define(2, 1), -5);
        C.due("define(1, -1)", x.define(1, -1), -5);
        C.due("told(20)", x.told(20), 1);
        C.due("told(21)", x.told(21), -5);
        C.due("told(22)", x.told(22), 1);
        C.due("define(0, -1)", x.define(0, -1), 1);
        C.due("told(20)", x.told(20), -5);
        C.due("define(3, 0)", x.define(3, 0), -1);
        C.due("define(-1, 0)", x.define(-1, 0), -1);
        C.due("define(0, 2)", x.define(0, 2), -1);
        C.due("define(0, -2)", x.define(0, -2), -1);
        C.due("told(20)", x.told(20), -5);
    }

    private static void traps() {
        ShellLines x = Check.with("ok", "f 1");
        C.due("trap(1)", x.trap(1), -5);
        C.due("told(30)", x.told(30), 1);
        C.due("trap(2)", x.trap(2), -1);
        C.due("trap(-2)", x.trap(-2), -1);
        C.due("trap(0)", x.trap(0), 1);
        C.due("trap(-1)", x.trap(-1), 0);
        C.due("trap(-1)", x.trap(-1), -5);
        C.due("told(30)", x.told(30), -5);
    }

    private static void values() {
        ShellLines x = new ShellLines();
        C.due("value(0, 7)", x.value(0, 7), 0);
        C.due("value(4, MIN)", x.value(4, Integer.MIN_VALUE), 0);
        C.due("value(4, MAX)", x.value(4, Integer.MAX_VALUE), Integer.MIN_VALUE);
        C.due("value(0, 8)", x.value(0, 8), 7);
        C.due("value(5, 1)", x.value(5, 1), ShellLines.NO);
        C.due("value(-1, 1)", x.value(-1, 1), ShellLines.NO);
        C.due("told(10)", x.told(10), 8);
        C.due("told(14)", x.told(14), Integer.MAX_VALUE);
        C.due("told(11)", x.told(11), 0);
    }
}
