/** NAMES, the constants, and what the Terms tell of THE TEXT up to the FAULT: each sentence by its edges. */
public final class EdgesOfTextTest {
    private static final int MAX = Integer.MAX_VALUE;
    private static final int MIN = Integer.MIN_VALUE;
    private static final Check C = new Check("EdgesOfTextTest");

    public static void main(String[] args) {
        names();
        lifetime();
        constants();
        lines();
        textOfHundredBytes();
        wholeLine();
        lists();
        pipes();
        stages();
        commands();
        numbersOfDigits();
        numbersOfNames();
        echo();
        wordsWithOne();
        sumSetOkFail();
        functions();
        words();
        braces();
        faultsInOrder();
        faultsOfWords();
        faultsOfBytes();
        C.end();
    }

    private static void names() {
        C.says("NAMES a .. e, each with a VALUE (an int; 0 at first).");
        ShellLines x = new ShellLines();
        for (int name = 0; name < 5; name++) {
            C.due("VALUE at first of " + name, x.told(10 + name), 0);
        }
        for (int name = 0; name < 5; name++) {
            C.due("the least int to " + name, x.value(name, MIN + name), 0);
            C.due("the greatest int to " + name, x.value(name, MAX - name), MIN + name);
        }
        for (int name = 0; name < 5; name++) {
            C.due("VALUE of " + name, x.told(10 + name), MAX - name);
        }
        C.due("no NAME ahead of a", x.value(-1, 1), ShellLines.NO);
        C.due("no NAME behind e", x.value(5, 1), ShellLines.NO);
    }

    private static void lifetime() {
        C.says("An object is used for at most 512 calls after it has been made; what later calls answer is free.");
        ShellLines x = new ShellLines();
        for (int i = 1; i <= 511; i++) {
            x.value(0, i);
        }
        C.due("the 512th call", x.told(10), 511);
        ShellLines y = new ShellLines();
        for (int i = 1; i <= 5; i++) {
            for (int bytes = 1; bytes <= 100; bytes++) {
                y.feed('k');
            }
            y.line();
        }
        for (int bytes = 1; bytes < 7; bytes++) {
            y.feed('k');
        }
        C.due("the 512th call", y.feed('k'), 7);
    }

    private static void constants() {
        C.says("public static final int NONE = -1, BAD = -2, STATE = -3, FULL = -4;");
        C.due("NONE", ShellLines.NONE, -1);
        C.due("BAD", ShellLines.BAD, -2);
        C.due("STATE", ShellLines.STATE, -3);
        C.due("FULL", ShellLines.FULL, -4);
        C.says("public static final long NO = Long.MIN_VALUE;");
        C.due("NO", ShellLines.NO, Long.MIN_VALUE);
        C.says("The constants: NO = Long.MIN_VALUE: There is no such number; END.");
        ShellLines x = Check.with("ok");
        x.job(0);
        C.due("no such number", x.told(40), Long.MIN_VALUE);
        C.due("END", x.turn(0), Long.MIN_VALUE);
    }

    private static void lines() {
        C.says("LINES 0 .. 7, as they come, are read from THE TEXT (bytes, 100 at most).");
        ShellLines x = new ShellLines();
        for (int line = 0; line <= 7; line++) {
            C.due("LINE " + line, Check.line(x, "echo " + (90 + line)), line);
            C.due("no LINE behind it", x.run(line + 1), -1);
        }
        C.due("a ninth", Check.line(x, "ok"), -4);
        for (int line = 0; line <= 7; line++) {
            C.runs(x, line, "" + (90 + line), 0, 0);
        }
        // A text with a FAULT takes no number.
        ShellLines y = Check.with("ok");
        C.due("a FAULT", Check.line(y, "o"), -10);
        C.due("the next LINE", Check.line(y, "ok"), 1);
    }

    private static void textOfHundredBytes() {
        C.says("(bytes, 100 at most)");
        StringBuilder text = new StringBuilder("sum");
        for (int i = 0; i < 31; i++) {
            text.append(";ok");
        }
        ShellLines x = new ShellLines();
        Check.feed(x, text + ";s");
        C.due("byte 99", x.feed('u'), 99);
        C.due("byte 100", x.feed('m'), 100);
        C.due("byte 101", x.feed(';'), -4);
        C.due("bytes then", x.count(5), 100);
        C.due("a LINE of 100 bytes", x.line(), 0);
        C.due("its PIPES", x.of(0, 0), 33);
        C.runs(x, 0, "0 0", 0, 0);
        Check.feed(x, text + ";ok;");
        C.due("a FAULT at the end of 100 bytes", x.line(), -10 - 100);
        C.due("a byte again", x.feed(';'), 1);
    }

    private static void wholeLine() {
        C.says("LINE: a LIST.");
        C.reads("ok", "ok;ok", "{ok}", "{ok};ok");
        C.fault("", 0);
        C.fault("ok\n", 2);
        C.fault("ok}", 2);
        C.fault("ok;ok}", 5);
        C.fault("{ok};ok}", 7);
        C.fault("(ok)", 0);
    }

    private static void lists() {
        C.says("LIST: a PIPE, with more PIPES behind a ; or & or / each.");
        C.reads("ok", "ok;ok", "ok&ok", "ok/ok", "ok;ok&ok/ok;ok", "{ok;ok&ok/ok}");
        C.due("PIPES", Check.with("ok;ok&ok/ok").of(0, 0), 4);
        C.fault("", 0);
        C.fault(";", 0);
        C.fault("ok;", 3);
        C.fault("ok&", 3);
        C.fault("ok/", 3);
        C.fault(";ok", 0);
        C.fault("&ok", 0);
        C.fault("/ok", 0);
        C.fault("ok;;ok", 3);
        C.fault("ok&&ok", 3);
        C.fault("ok//ok", 3);
        C.fault("ok;&ok", 3);
        // The signs beside ; & and /.
        for (char sign : ":<%'.0".toCharArray()) {
            C.fault("ok" + sign + "ok", 2);
        }
    }

    private static void pipes() {
        C.says("PIPE: STAGES, 1 to 6, with | between.");
        C.reads("ok", "ok|ok", "ok|ok|ok|ok|ok|ok", "{ok|ok|ok|ok|ok|ok}", "{ok}|ok|ok|ok|ok|ok");
        C.reads("ok|ok|ok|ok|ok|ok;ok|ok|ok|ok|ok|ok", "{ok|ok|ok|ok|ok|ok}|ok|ok|ok|ok|ok", "f 1|ok|ok|ok|ok|ok");
        C.due("six", Check.with("ok|ok|ok|ok|ok|ok").of(0, 1), 6);
        C.runs("seq 1|add 1|add 1|add 1|add 1|add 1", 0, 0, "6", 0, 5);
        C.fault("ok|ok|ok|ok|ok|ok|ok", 17);
        C.fault("ok|ok|ok|ok|ok|ok|", 17);
        C.fault("{ok|ok|ok|ok|ok|ok|ok}", 18);
        C.fault("{ok}|ok|ok|ok|ok|ok|ok", 19);
        C.fault("f 1|ok|ok|ok|ok|ok|ok", 18);
        C.fault("|", 0);
        C.fault("|ok", 0);
        C.fault("ok|", 3);
        C.fault("ok||ok", 3);
        C.fault("ok|;ok", 3);
        C.fault("{ok|}", 4);
    }

    private static void stages() {
        C.says("STAGE: a COMMAND, or, as the first one of a PIPE alone, {LIST}.");
        C.reads("{ok}", "{ok}|ok", "ok;{ok}", "ok&{ok}/{ok}", "{{ok}|ok;{ok}}");
        C.fault("ok|{ok}", 3);
        C.fault("{ok}|{ok}", 5);
        C.fault("{ok|{ok}}", 4);
        C.fault("ok{ok}", 2);
        C.fault("{}", 1);
        C.fault("{;}", 1);
        C.fault("{", 1);
        C.fault("{ok", 3);
        C.fault("{ok|ok", 6);
        C.fault("{ok;}", 4);
        C.fault("{ok)", 3);
        C.fault("}", 0);
        C.fault("ok}", 2);
        C.fault("{ok}}", 4);
        C.fault("{ok}ok", 4);
        C.fault("{ok}{ok}", 4);
        C.fault("{{ok}", 5);
    }

    private static void commands() {
        C.says("COMMAND: a WORD, and what it takes, one blank ahead of each.");
        C.reads("seq 1", "echo 1 2", "set a", "ok");
        C.fault("seq1", 3);
        C.fault("seq$a", 3);
        C.fault("seq  1", 4);
        C.fault("seq\t1", 3);
        C.fault("seq!1", 3);
        C.fault("echo 1  2", 7);
        C.fault("echo 1,2", 6);
        C.fault("echo 1$a", 6);
        C.fault("set  a", 4);
        C.fault("seta", 0);
        C.fault(" ok", 0);
        C.fault("ok ", 2);
        C.fault("ok |ok", 2);
        C.fault("ok| ok", 3);
        C.fault("ok; ok", 3);
        C.fault("{ ok}", 1);
        C.fault("{ok }", 3);
    }

    private static void numbersOfDigits() {
        C.says("N: 1 to 3 digits,");
        C.reads("seq 0", "seq 9", "seq 10", "seq 99", "seq 100", "seq 999", "seq 000", "echo 1 12 123 000");
        C.fault("seq ", 4);
        C.fault("seq", 3);
        C.fault("seq 1000", 7);
        C.fault("seq 0000", 7);
        C.fault("echo 1 1234", 10);
        C.fault("seq /", 4);
        C.fault("seq :", 4);
        C.fault("seq 1/", 6);
        C.fault("seq 1:", 5);
        C.fault("seq -1", 4);
        C.fault("seq +1", 4);
        C.fault("seq 1a", 5);
        C.fault("seq 1$a", 5);
        C.fault("seq x", 4);
    }

    private static void numbersOfNames() {
        C.says("or $ and a letter a .. e, or $p.");
        C.reads("seq $a", "seq $b", "seq $c", "seq $d", "seq $e", "seq $p", "echo $a $p $e 1", "f $p", "f $e");
        C.fault("seq $", 5);
        for (char sign : "`foqAEP1$ |".toCharArray()) {
            C.fault("seq $" + sign, 5);
        }
        C.fault("seq $aa", 6);
        C.fault("seq $pp", 6);
        C.fault("seq $p1", 6);
        C.fault("seq $$a", 5);
        C.fault("seq a", 4);
        C.fault("seq p", 4);
        C.fault("seq #a", 4);
        C.fault("seq %a", 4);
        C.fault("echo 1 $", 8);
        C.fault("echo 1 $f", 8);
    }

    private static void echo() {
        C.says("WORDS: echo (1 to 4 N);");
        C.reads("echo 1", "echo 1 2", "echo 1 2 3", "echo 1 2 3 4", "echo 1 2 3 4|ok", "echo 1;ok");
        C.fault("echo", 4);
        C.fault("echo ", 5);
        C.fault("echo;", 4);
        C.fault("echo 1 2 3 4 5", 12);
        C.fault("echo 1 2 3 4 ", 12);
        C.fault("echo 1 ", 7);
        C.fault("echo 1 2 3 ", 11);
        C.fault("echo 1 |ok", 7);
    }

    private static void wordsWithOne() {
        C.says("seq N; add N; mul N; mod N; keep N; take N;");
        String[] words = {"seq", "add", "mul", "mod", "keep", "take"};
        for (String word : words) {
            one(word, 0);
        }
        for (String word : words) {
            C.reads("ok|" + word + " 1");
            C.fault("ok|" + word, 3 + word.length());
        }
    }

    /** A word takes one N, no less and no more, and a fault tells where that ends. */
    private static void one(String word, int ahead) {
        int end = ahead + word.length();
        C.reads(word + " 1", word + " 999", word + " $a", word + " $p", word + " 1|ok", word + " 1;ok", "{" + word + " 1}");
        C.fault(word, end);
        C.fault(word + ";ok", end);
        C.fault(word + " ", end + 1);
        C.fault(word + " x", end + 1);
        C.fault(word + " 1 2", end + 2);
        C.fault(word + " 1 ", end + 2);
        C.fault(word + "x 1", ahead);
    }

    private static void sumSetOkFail() {
        C.says("sum; set (a letter a .. e); ok; fail N;");
        C.reads("sum", "ok", "set a", "set b", "set c", "set d", "set e", "ok|sum|set a|ok|fail 1");
        C.fault("sum 1", 3);
        C.fault("sum ", 3);
        C.fault("ok 1", 2);
        C.fault("ok ", 2);
        C.fault("set", 3);
        C.fault("set ", 4);
        for (char sign : "`fpA1$|".toCharArray()) {
            C.fault("set " + sign, 4);
        }
        C.fault("set $a", 4);
        C.fault("set ab", 5);
        C.fault("set a b", 5);
        C.fault("set a ", 5);
        one("fail", 0);
    }

    private static void functions() {
        C.says("and, as the first STAGE of a PIPE alone, f N, g N, h N.");
        for (String word : new String[] {"f", "g", "h"}) {
            one(word, 0);
            C.reads("ok;" + word + " 1", "ok&" + word + " 1", "ok/" + word + " 1", word + " 1|sum");
            C.fault("ok|" + word + " 1", 3);
            C.fault("ok|ok|" + word + " 1", 6);
            C.fault("ok|" + word, 3);
            C.fault(word + " 1|" + word + " 1", 4);
            C.fault("{ok}|" + word + " 1", 5);
        }
        C.fault("e 1", 0);
        C.fault("i 1", 0);
        C.fault("p 1", 0);
    }

    private static void words() {
        C.says("A WORD is as many letters a .. z as stand there.");
        C.fault("okk", 0);
        C.fault("oka", 0);
        C.fault("okz", 0);
        C.fault("okok", 0);
        C.fault("seqq 1", 0);
        C.fault("seqadd 1", 0);
        C.fault("ff 1", 0);
        C.fault("fg 1", 0);
        C.fault("sumx", 0);
        C.fault("o", 0);
        C.fault("se 1", 0);
        // The signs beside a and z, and capitals, end a WORD.
        for (char sign : "`{A_Z1".toCharArray()) {
            C.fault("ok" + sign, 2);
        }
        C.fault("Ok", 0);
        C.fault("oK", 0);
        C.fault("OK", 0);
    }

    private static void braces() {
        C.says("A { within 3 others is none.");
        C.reads("{ok}", "{{ok}}", "{{{ok}}}", "{{{ok}}};{{{ok}}}", "{{{ok};{ok}};{{ok}}}", "{{{ok}|ok}|ok}|ok");
        C.fault("{{{{ok}}}}", 3);
        C.fault("{{{{", 3);
        C.fault("{ok;{ok;{ok;{ok}}}}", 12);
        C.fault("{{{ok;{ok}}}}", 6);
        C.fault("{{{ok}}};{{{{ok}}}}", 12);
        C.fault("{{{ok};{{ok}}}}", 8);
    }

    private static void faultsInOrder() {
        C.says("The FAULT (from the first byte on, what comes first):");
        C.fault("seq 1234;nope", 7);
        C.fault("nope;seq 1234", 0);
        C.fault("ok;nope;noper", 3);
        C.fault("{seq x;nope}}", 5);
        C.fault("{{{{nope", 3);
        C.fault("{{{nope;{", 3);
        C.fault("ok|f", 3);
        C.fault("f|f 1", 1);
    }

    private static void faultsOfWords() {
        C.says("the first byte of a WORD that is none of these (also at the end), or can't stand there;");
        C.fault("ok;nope", 3);
        C.fault("ok|ech 1", 3);
        C.fault("{nope}", 1);
        C.fault("a", 0);
        // At the end, where more letters could make it one.
        C.fault("ec", 0);
        C.fault("ok;se", 3);
        C.fault("ok|fai", 3);
        C.fault("{{o", 2);
        C.fault("ok|f", 3);
        C.fault("ok|ok;ok|h", 9);
        C.fault("{ok|g 1}", 4);
    }

    private static void faultsOfBytes() {
        C.says("else the place of the first byte with which none begins so (the end of THE TEXT, if it ends too early).");
        C.fault("\0", 0);
        C.fault("\177", 0);
        C.fault("ok\0", 2);
        C.fault("ok\n", 2);
        C.fault("?", 0);
        C.fault("seq ?", 4);
        C.fault("seq 1?", 5);
        C.fault("ok;?", 3);
        C.fault("ok|?", 3);
        C.fault("{?", 1);
        C.fault("{ok}?", 4);
        // The end comes too early.
        C.fault("fail", 4);
        C.fault("fail ", 5);
        C.fault("fail $", 6);
        C.fault("{fail 1", 7);
        C.fault("ok;{{ok}", 8);
    }
}
