/** What the Terms tell of N and of each WORD's NEXT and STATUS: each sentence by its edges. */
public final class EdgesOfWordsTest {
    private static final int MAX = Integer.MAX_VALUE;
    private static final int MIN = Integer.MIN_VALUE;
    private static final Check C = new Check("EdgesOfWordsTest");

    public static void main(String[] args) {
        noneAtFirst();
        digits();
        valuesOfNames();
        parameter();
        workedOutAsItBegins();
        endsBehindAnEnd();
        nothingAheadOfTheFirst();
        echo();
        seq();
        okAndFail();
        add();
        mul();
        mod();
        keep();
        take();
        sum();
        set();
        statusOfMost();
        statusOfFail();
        statusOfMod();
        statusOfSet();
        C.end();
    }

    private static void noneAtFirst() {
        C.says("FUNCTIONS f, g, h have a LINE each, or none (at first).");
        for (String word : new String[] {"f", "g", "h"}) {
            C.runs(word + " 1", 0, 0, "", 1, 0);
        }
        ShellLines x = Check.with("f 1;g 2;h 3", "echo 1 $p", "echo 2 $p", "echo 3 $p");
        x.define(0, 1);
        x.define(1, 2);
        x.define(2, 3);
        C.runs(x, 0, "1 1 2 2 3 3", 0, 0);
        C.says("THE TRAP is a LINE, or none (at first).");
        C.due("no TRAP at first", new ShellLines().told(30), -5);
        C.runs("fail 1", 0, 0, "", 1, 0);
        x.trap(1);
        C.runs(x, 1, "1 0", 0, 0);
    }

    private static void digits() {
        C.says("A PIPE that begins works out its N, STAGE by STAGE: digits as they read;");
        C.runs("echo 0 00 000 007", 0, 0, "0 0 0 7", 0, 0);
        C.runs("echo 1 10 100 999", 0, 0, "1 10 100 999", 0, 0);
        C.runs("echo 010 09 90 088", 0, 0, "10 9 90 88", 0, 0);
        C.runs("echo 1|add 999|add 001", 0, 0, "1001", 0, 2);
        // Also where there is a PARAMETER, and where NAMES have VALUES.
        ShellLines x = Check.with("f 7", "echo 0 1 5 6;echo 9 $p|mul 1");
        x.define(0, 1);
        for (int name = 0; name < 5; name++) {
            x.value(name, 50 + name);
        }
        C.runs(x, 0, "0 1 5 6 9 7", 0, 2);
    }

    private static void valuesOfNames() {
        C.says("$ and a letter: VALUE of that NAME;");
        ShellLines x = Check.with("echo $a $b $c $d;echo $e", "fail $e", "echo 0|add $a|add $b|add $c|add $d|add $e");
        C.runs(x, 0, "0 0 0 0 0", 0, 0);
        x.value(0, MIN);
        x.value(1, MAX);
        x.value(2, -1);
        x.value(3, 1);
        x.value(4, 5);
        C.runs(x, 0, MIN + " " + MAX + " -1 1 5", 0, 0);
        C.runs(x, 1, "", 5, 0);
        C.runs(x, 2, "4", 0, 5);
    }

    private static void parameter() {
        C.says("$p: the PARAMETER (0 outside of FUNCTIONS).");
        C.runs("echo $p", 1, 2, "0", 0, 0);
        C.runs("{{{echo $p}}}", 1, 2, "0", 0, 0);
        C.runs("fail $p", 1, 2, "", 0, 0);
        ShellLines x = Check.with("f 999;f $a;f $p;echo $p", "echo $p;{{echo $p}}|add $p");
        x.define(0, 1);
        x.value(0, MIN);
        C.runs(x, 0, "999 1998 " + MIN + " 0 0 0 0", 0, 3);
    }

    private static void workedOutAsItBegins() {
        C.says("A PIPE that begins works out its N");
        // What its own STAGES, and its LIST, do to a VALUE comes too late.
        C.runs("seq 4|set a|sum|add $a;echo $a", 100, 0, "100 4", 0, 5);
        C.runs("{echo 5|set a;echo 1}|add $a;echo $a", 100, 0, "101 5", 0, 2);
        C.runs("{echo 5|set a;echo 1 $a}|add 0", 100, 0, "1 5", 0, 3);
    }

    private static void endsBehindAnEnd() {
        C.says("Each of its STAGES can then be asked for its NEXT: a number (an int), or END; behind an END there are only ENDS.");
        // sum is asked again by what stands behind it.
        C.runs("seq 3|sum|sum|sum", 0, 0, "6", 0, 5);
        C.runs("sum|sum|sum", 0, 0, "0", 0, 2);
        C.runs("echo 4|take 9|sum", 0, 0, "4", 0, 2);
        C.runs("echo $a $b", MIN, MAX, MIN + " " + MAX, 0, 0);
        ShellLines x = Check.with("sum");
        x.job(0);
        C.turns(x, 0, 0, ShellLines.NO, ShellLines.NO);
    }

    private static void nothingAheadOfTheFirst() {
        C.says("It asks the STAGE ahead, if it does; the first STAGE has END ahead.");
        for (String word : new String[] {"add 1", "mul 1", "mod 1", "keep 1", "keep 0", "take 1", "take 999"}) {
            C.runs(word, 0, 0, "", 0, 0);
            C.runs(word + "|sum", 0, 0, "0", 0, 0);
        }
        C.runs("sum", 0, 0, "0", 0, 0);
        C.runs("set a;echo $a", 7, 0, "7", 0, 0);
    }

    private static void echo() {
        C.says("echo: its numbers, one by one.");
        C.runs("echo 7", 0, 0, "7", 0, 0);
        C.runs("echo 7 7", 0, 0, "7 7", 0, 0);
        C.runs("echo 4 3 2 1", 0, 0, "4 3 2 1", 0, 0);
        C.runs("echo 1 2 3 4|take 3", 0, 0, "1 2 3", 0, 3);
        C.runs("seq 5|set a|echo 9;echo $a", 7, 0, "9 7", 0, 0);
    }

    private static void seq() {
        C.says("seq: 1, 2, .. up to N (99 at most).");
        C.runs("seq 0", 0, 0, "", 0, 0);
        C.runs("seq $a", -1, 0, "", 0, 0);
        C.runs("seq $a", MIN, 0, "", 0, 0);
        C.runs("seq 1", 0, 0, "1", 0, 0);
        C.runs("seq 2", 0, 0, "1 2", 0, 0);
        C.runs("seq 98|sum", 0, 0, "4851", 0, 98);
        C.runs("seq 99|sum", 0, 0, "4950", 0, 99);
        C.runs("seq 100|sum", 0, 0, "4950", 0, 99);
        C.runs("seq 999|sum", 0, 0, "4950", 0, 99);
        C.runs("seq $a|sum", MAX, 0, "4950", 0, 99);
        C.runs("seq 5|set a|seq 2;echo $a", 7, 0, "1 2 7", 0, 0);
    }

    private static void okAndFail() {
        C.says("ok, fail: END.");
        C.runs("ok", 0, 0, "", 0, 0);
        C.runs("fail 0", 0, 0, "", 0, 0);
        C.runs("ok|sum", 0, 0, "0", 0, 0);
        C.runs("fail 9|sum", 0, 0, "0", 0, 0);
        C.runs("seq 5|set a|ok;echo $a", 7, 0, "7", 0, 0);
        C.runs("seq 5|set a|fail 0;echo $a", 7, 0, "7", 0, 0);
    }

    private static void add() {
        C.says("add: what comes from ahead, and N (wrapping).");
        C.runs("echo 5 0|add 0", 0, 0, "5 0", 0, 2);
        C.runs("echo 5 0|add 999", 0, 0, "1004 999", 0, 2);
        C.runs("echo $a $b|add 1", MAX, MAX - 1, MIN + " " + MAX, 0, 2);
        C.runs("echo $a 1 0|add $b", MIN, -1, MAX + " 0 -1", 0, 3);
        C.runs("echo $a|add $a", MAX, 0, "-2", 0, 1);
        C.runs("echo $a|add $a", MIN, 0, "0", 0, 1);
    }

    private static void mul() {
        C.says("mul: times N (wrapping).");
        C.runs("echo 5 0|mul 1", 0, 0, "5 0", 0, 2);
        C.runs("echo 5 $a|mul 0", MIN, 0, "0 0", 0, 2);
        C.runs("echo $a $b|mul 2", MAX, MIN, "-2 0", 0, 2);
        C.runs("echo $a|mul $a", 65536, 0, "0", 0, 1);
        C.runs("echo $a|mul $a", 46341, 0, "" + (46341 * 46341), 0, 1);
        C.runs("echo $a 3|mul $b", MIN, -1, MIN + " -3", 0, 2);
    }

    private static void mod() {
        C.says("mod: what the division by N leaves (with the sign of what came; N 0: END, nothing is asked).");
        C.runs("echo 7 6 0 $a|mod 3", -7, 0, "1 0 0 -1", 0, 4);
        C.runs("echo 7 $a|mod $b", -7, -3, "1 -1", 0, 2);
        C.runs("echo 7 $a|mod 1", MIN, 0, "0 0", 0, 2);
        C.runs("echo $a $b 5|mod $b", MIN, -1, "0 0 0", 0, 3);
        C.runs("echo $a $b|mod $b", MIN, MAX, "-1 0", 0, 2);
        C.runs("echo $b $a 1|mod $a", MIN, MAX, MAX + " 0 1", 0, 3);
        C.runs("echo 7 8|mod 0", 0, 0, "", 2, 0);
        C.runs("echo 7 8|set a|mod $b;echo $a", 5, 0, "5", 0, 0);
        C.runs("echo 7 8|mod 0|sum", 0, 0, "0", 0, 0);
    }

    private static void keep() {
        C.says("keep: the first from ahead that N divides (N 0: that is 0).");
        C.runs("echo 1 2 3 4|keep 2", 0, 0, "2 4", 0, 4);
        C.runs("echo 1 3 5|keep 2", 0, 0, "", 0, 3);
        C.runs("echo 0 6 7 $a|keep 3", -9, 0, "0 6 -9", 0, 4);
        C.runs("echo 0 6 7 $a|keep $b", -9, -3, "0 6 -9", 0, 4);
        C.runs("echo 5 $a 0|keep 1", MIN, 0, "5 " + MIN + " 0", 0, 3);
        C.runs("echo 5 $a 0|keep $b", MIN, -1, "5 " + MIN + " 0", 0, 3);
        C.runs("echo 0 $b $a|keep $a", MIN, MAX, "0 " + MIN, 0, 3);
        C.runs("echo 1 0 $a 0|keep 0", -1, 0, "0 0", 0, 4);
        C.runs("seq 5|keep 0", 0, 0, "", 0, 5);
        C.runs("seq 9|keep 2|take 1", 0, 0, "2", 0, 3);
    }

    private static void take() {
        C.says("take: what comes from ahead, N times; then END, nothing is asked.");
        C.runs("seq 9|take 0", 0, 0, "", 0, 0);
        C.runs("seq 9|take $a", -1, 0, "", 0, 0);
        C.runs("seq 9|take $a", MIN, 0, "", 0, 0);
        C.runs("seq 9|take 1", 0, 0, "1", 0, 1);
        C.runs("seq 9|take 8|sum", 0, 0, "36", 0, 16);
        C.runs("seq 9|take 9|sum", 0, 0, "45", 0, 18);
        C.runs("seq 9|take 10|sum", 0, 0, "45", 0, 18);
        C.runs("seq 9|take $a|sum", MAX, 0, "45", 0, 18);
        // What isn't asked doesn't go: keep behind its 2nd, set at all.
        C.runs("seq 9|keep 3|take 2", 0, 0, "3 6", 0, 8);
        C.runs("seq 9|set a|take 0;echo $a", 7, 0, "7", 0, 0);
        C.runs("seq 9|set a|take 1;echo $a", 7, 0, "9", 0, 9);
    }

    private static void sum() {
        C.says("sum: it asks ahead till END; all that came, together (wrapping; 0, if nothing did); then END.");
        C.runs("echo 5|sum", 0, 0, "5", 0, 1);
        C.runs("seq 5|sum", 0, 0, "15", 0, 5);
        C.runs("ok|sum", 0, 0, "0", 0, 0);
        C.runs("echo $a 1|sum", MAX, 0, "" + MIN, 0, 2);
        C.runs("echo $a $b|sum", MIN, -1, "" + MAX, 0, 2);
        C.runs("echo $a $a|sum", MIN, 0, "0", 0, 2);
        C.runs("seq 5|sum|take 1", 0, 0, "15", 0, 6);
        C.runs("seq 5|sum|take 2", 0, 0, "15", 0, 6);
        C.runs("seq 5|sum|take 0", 0, 0, "", 0, 0);
        C.runs("seq 5|sum;seq 2|sum", 0, 0, "15 3", 0, 7);
    }

    private static void set() {
        C.says("set (a letter a .. e)");
        ShellLines x = Check.with("echo 1|set a;echo 2|set b;echo 3|set c;echo 4|set d;echo 5|set e");
        C.runs(x, 0, "", 0, 5);
        for (int name = 0; name < 5; name++) {
            C.due("VALUE of " + name, x.told(10 + name), name + 1);
        }
        C.says("set: it asks ahead till END; if something came, the last of it is VALUE of the NAME; END.");
        C.runs("echo 4|set a;echo $a", 7, 0, "4", 0, 1);
        C.runs("echo 4 5 0|set a;echo $a", 7, 0, "0", 0, 3);
        C.runs("ok|set a;echo $a", 7, 0, "7", 0, 0);
        C.runs("seq 9|set a|sum;echo $a", 7, 0, "0 9", 0, 9);
        C.runs("seq 9|take 2|set a|set b;echo $a $b", 7, 8, "2 8", 0, 4);
        C.runs("echo $b|set a;echo $a", 7, MIN, "" + MIN, 0, 1);
        C.runs("echo 1 5|keep 3|set a;echo $a", 7, 0, "7", 0, 2);
    }

    private static void statusOfMost() {
        C.says("A PIPE GOES: it begins; its last STAGE is asked till END; each number is WRITTEN. STATUS of it is that of its last STAGE then: 0;");
        String[] zero = {"echo 1", "seq 0", "seq 1", "add 1", "mul 0", "keep 0", "take 0", "sum", "ok"};
        for (String word : zero) {
            ShellLines x = Check.with("fail 5|" + word, "mod 0|" + word, "ok|set a|" + word);
            for (int line = 0; line < 3; line++) {
                x.run(line);
                C.due("STATUS of " + word + " behind " + line, x.told(1), 0);
            }
        }
        C.runs("echo 1 2 3", 0, 0, "1 2 3", 0, 0);
        C.runs("f 1|ok", 0, 0, "", 0, 0);
        C.runs("{fail 3}|ok", 0, 0, "", 0, 0);
    }

    private static void statusOfFail() {
        C.says("but of fail: N;");
        C.runs("fail 0", 0, 0, "", 0, 0);
        C.runs("fail 1", 0, 0, "", 1, 0);
        C.runs("fail 999", 0, 0, "", 999, 0);
        C.runs("fail $a", -1, 0, "", -1, 0);
        C.runs("fail $a", MIN, 0, "", MIN, 0);
        C.runs("fail $a", MAX, 0, "", MAX, 0);
        C.runs("seq 5|fail 3", 0, 0, "", 3, 0);
        C.runs("fail 3|fail 0", 0, 0, "", 0, 0);
    }

    private static void statusOfMod() {
        C.says("of mod with N 0: 2;");
        C.runs("mod 0", 0, 0, "", 2, 0);
        C.runs("seq 5|mod 0", 0, 0, "", 2, 0);
        C.runs("seq 5|mod $a", 0, 0, "", 2, 0);
        C.runs("seq 2|mod 1", 0, 0, "0 0", 0, 2);
        C.runs("seq 2|mod $a", -1, 0, "0 0", 0, 2);
        C.runs("mod 1", 0, 0, "", 0, 0);
        C.runs("seq 5|mod 0|mod 1", 0, 0, "", 0, 0);
        C.runs("seq 5|keep 0", 0, 0, "", 0, 5);
    }

    private static void statusOfSet() {
        C.says("of set: 1, if nothing came;");
        C.runs("set a", 0, 0, "", 1, 0);
        C.runs("seq 0|set a", 0, 0, "", 1, 0);
        C.runs("seq 1|set a", 0, 0, "", 0, 1);
        C.runs("echo 0|set a", 0, 0, "", 0, 1);
        C.runs("seq 9|set a|set b", 0, 0, "", 1, 9);
        C.runs("seq 9|mod 0|set b", 0, 0, "", 1, 0);
    }
}
