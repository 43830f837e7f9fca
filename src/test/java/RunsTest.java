/** Promises 8 and 9, and what the Terms tell of PIPES, LISTS, FUNCTIONS, FUEL and THE TRAP. */
public final class RunsTest {
    private static final int MAX = Integer.MAX_VALUE;
    private static final int MIN = Integer.MIN_VALUE;
    private static final Check C = new Check("RunsTest");

    public static void main(String[] args) {
        answers();
        sources();
        maps();
        takers();
        setters();
        statuses();
        joins();
        lists();
        worksOutAhead();
        functions();
        deepFunctions();
        functionsWithoutLine();
        deepestLists();
        fuel();
        fuelAndJoins();
        traps();
        trapsAndFuel();
        leftOut();
        C.end();
    }

    private static void answers() {
        ShellLines x = Check.with("echo 5 6|add $a", "ok", "fail 4");
        C.due("run(-1)", x.run(-1), -1);
        C.due("run(3)", x.run(3), -1);
        C.due("run(MAX)", x.run(MAX), -1);
        C.due("run(0)", x.run(0), 2);
        C.due("told(0)", x.told(0), 2);
        C.due("told(1)", x.told(1), 0);
        C.due("told(2)", x.told(2), 2);
        C.due("told(40)", x.told(40), 5);
        C.due("told(41)", x.told(41), 6);
        C.due("told(42)", x.told(42), ShellLines.NO);
        C.due("run(9)", x.run(9), -1);
        C.due("told(0) after no run", x.told(0), 2);
        C.due("run(2)", x.run(2), 0);
        C.due("told(0)", x.told(0), 0);
        C.due("told(1)", x.told(1), 4);
        C.due("told(2)", x.told(2), 0);
        C.due("told(40)", x.told(40), ShellLines.NO);
        C.due("run(1)", x.run(1), 0);
        C.due("told(1)", x.told(1), 0);
        int[] none = {-1, 3, 4, 9, 15, 19, 23, 29, 31, 39, 100, MAX, MIN};
        for (int what : none) {
            C.due("told(" + what + ")", x.told(what), ShellLines.NO);
        }
    }

    private static void sources() {
        C.runs("echo 5 7 $a $b", 3, -9, "5 7 3 -9", 0, 0);
        C.runs("echo 0", 0, 0, "0", 0, 0);
        C.runs("seq 3", 0, 0, "1 2 3", 0, 0);
        C.runs("seq 0", 0, 0, "", 0, 0);
        C.runs("seq $a", -4, 0, "", 0, 0);
        C.runs("seq 99|sum", 0, 0, "4950", 0, 99);
        C.runs("seq 100|sum", 0, 0, "4950", 0, 99);
        C.runs("seq $a|sum", MAX, 0, "4950", 0, 99);
        C.runs("echo $p", 1, 1, "0", 0, 0);
        C.runs("ok", 0, 0, "", 0, 0);
        C.runs("fail 5", 0, 0, "", 5, 0);
        C.runs("seq 5|echo 8 9", 0, 0, "8 9", 0, 0);
        C.runs("seq 5|ok", 0, 0, "", 0, 0);
        C.runs("seq 5|seq 2|fail 3", 0, 0, "", 3, 0);
    }

    private static void maps() {
        C.runs("seq 3|add 10", 0, 0, "11 12 13", 0, 3);
        C.runs("echo $a $b|add 1", MAX, -1, MIN + " 0", 0, 2);
        C.runs("echo 1|add $a", MIN, 0, "" + (MIN + 1), 0, 1);
        C.runs("seq 3|mul 3", 0, 0, "3 6 9", 0, 3);
        C.runs("echo $a $b|mul 2", MAX, MIN, "-2 0", 0, 2);
        C.runs("echo 7 8 $a $b|mod 4", -7, -8, "3 0 -3 0", 0, 4);
        C.runs("echo 7 $b|mod $a", -4, -7, "3 -3", 0, 2);
        C.runs("echo $a|mod $b", MIN, -1, "0", 0, 1);
        C.runs("echo 7 8|mod 0", 0, 0, "", 2, 0);
        C.runs("echo 7 8|mod $a|sum", 0, 0, "0", 0, 0);
        C.runs("seq 9|keep 3", 0, 0, "3 6 9", 0, 9);
        C.runs("seq 9|keep $a", -4, 0, "4 8", 0, 9);
        C.runs("echo 0 5 0 1|keep 0", 0, 0, "0 0", 0, 4);
        C.runs("echo $a 3 0|keep $b", MIN, -1, MIN + " 3 0", 0, 3);
        C.runs("add 1", 0, 0, "", 0, 0);
        C.runs("keep 0|mul 2", 0, 0, "", 0, 0);
    }

    private static void takers() {
        C.runs("seq 9|take 2", 0, 0, "1 2", 0, 2);
        C.runs("seq 2|take 5", 0, 0, "1 2", 0, 2);
        C.runs("seq 9|take 0", 0, 0, "", 0, 0);
        C.runs("seq 9|take $a", -1, 0, "", 0, 0);
        C.runs("seq 9|keep 3|take 2", 0, 0, "3 6", 0, 8);
        C.runs("seq 9|add 1|take 3|mul 2", 0, 0, "4 6 8", 0, 9);
        C.runs("seq 5|sum", 0, 0, "15", 0, 5);
        C.runs("seq 5|sum|mul 3", 0, 0, "45", 0, 6);
        C.runs("seq 5|mul 3|sum", 0, 0, "45", 0, 10);
        C.runs("ok|sum", 0, 0, "0", 0, 0);
        C.runs("sum", 0, 0, "0", 0, 0);
        C.runs("sum|sum|sum", 0, 0, "0", 0, 2);
        C.runs("echo $a $a|sum", MAX, 0, "-2", 0, 2);
        C.runs("echo $a $b|sum", MAX, 1, "" + MIN, 0, 2);
        C.runs("seq 5|sum|take 1", 0, 0, "15", 0, 6);
        C.runs("seq 5|sum|take 0", 0, 0, "", 0, 0);
    }

    private static void sets(String text, long a, long b, String out, long status, long reads) {
        ShellLines x = Check.with(text);
        x.value(0, 100);
        x.value(1, 200);
        C.runs(x, 0, out, status, reads);
        C.due("a after " + text, x.told(10), a);
        C.due("b after " + text, x.told(11), b);
    }

    private static void setters() {
        sets("seq 4|set a", 4, 200, "", 0, 4);
        sets("echo 7 5|set b", 100, 5, "", 0, 2);
        sets("ok|set a", 100, 200, "", 1, 0);
        sets("set a", 100, 200, "", 1, 0);
        sets("ok|set a|sum", 100, 200, "0", 0, 0);
        sets("seq 4|set a|sum", 4, 200, "0", 0, 4);
        sets("seq 4|set a|take 0", 100, 200, "", 0, 0);
        sets("seq 4|set a|echo 9", 100, 200, "9", 0, 0);
        sets("seq 4|take 2|set a|set b", 2, 200, "", 1, 4);
        sets("seq 4|set a;echo $a", 4, 200, "4", 0, 4);
        sets("seq 4|set a;echo $a|mul 2|set b", 4, 8, "", 0, 6);
        // A NAME's VALUE is worked out as the PIPE begins.
        sets("seq 4|set a|seq $a|sum", 100, 200, "4950", 0, 99);
        sets("echo 1|mod 0|set a", 100, 200, "", 1, 0);
    }

    private static void statuses() {
        C.runs("fail 3|take 1", 0, 0, "", 0, 0);
        C.runs("fail 3|fail 0", 0, 0, "", 0, 0);
        C.runs("fail $a", -6, 0, "", -6, 0);
        C.runs("fail 999", 0, 0, "", 999, 0);
        C.runs("mod 0", 0, 0, "", 2, 0);
        C.runs("mod 1", 0, 0, "", 0, 0);
        C.runs("seq 3|mod 0|add 1", 0, 0, "", 0, 0);
        C.runs("{fail 3}", 0, 0, "", 3, 0);
        C.runs("{fail 3}|take 1", 0, 0, "", 0, 0);
        C.runs("{fail 3;ok}", 0, 0, "", 0, 0);
        C.runs("{seq 2|mod 0}", 0, 0, "", 2, 0);
        C.runs("{{fail 3}|sum}", 0, 0, "0", 0, 0);
    }

    private static void joins() {
        C.runs("ok&echo 1", 0, 0, "1", 0, 0);
        C.runs("fail 2&echo 1", 0, 0, "", 2, 0);
        C.runs("ok/echo 1", 0, 0, "", 0, 0);
        C.runs("fail 2/echo 1", 0, 0, "1", 0, 0);
        C.runs("fail 2;echo 1", 0, 0, "1", 0, 0);
        C.runs("fail 2&echo 1/echo 2", 0, 0, "2", 0, 0);
        C.runs("ok/echo 1&echo 2", 0, 0, "2", 0, 0);
        C.runs("fail 2&fail 3&echo 1/fail 4", 0, 0, "", 4, 0);
        C.runs("fail 2/fail 3/echo 1/echo 2", 0, 0, "1", 0, 0);
        C.runs("echo 7 9|mod $a/echo 1", 0, 0, "1", 0, 0);
        C.runs("echo 7 9|mod $a/echo 1", 4, 0, "3 1", 0, 2);
        C.runs("set a/echo 5", 0, 0, "5", 0, 0);
        C.runs("fail $a&echo 5", -1, 0, "", -1, 0);
        C.runs("fail $a&echo 5", 0, 0, "5", 0, 0);
        C.runs("{ok&{fail 2/echo 1 2}}|sum", 0, 0, "3", 0, 2);
        C.runs("{ok;fail 1}&echo 4", 0, 0, "", 1, 0);
    }

    private static void lists() {
        C.runs("{echo 1;echo 2 3}", 0, 0, "1 2 3", 0, 0);
        C.runs("{echo 1;echo 2 3}|add 1", 0, 0, "2 3 4", 0, 3);
        C.runs("{seq 3|add 1}|add 1", 0, 0, "3 4 5", 0, 6);
        C.runs("{echo $p}", 0, 0, "0", 0, 0);
        C.runs("{{{seq 3}|take 2}|sum}|mul 2", 0, 0, "6", 0, 5);
        // All of the LIST goes as the first number is asked, and nothing of it, if none is.
        sets("{echo 1;seq 4|set a}|take 1", 4, 200, "1", 0, 5);
        sets("{echo 1;seq 4|set a}|take 0", 100, 200, "", 0, 0);
        sets("{echo 1;seq 4|set a}|ok", 100, 200, "", 0, 0);
        sets("{echo 1 2 3;echo 8|set a}|set b", 8, 3, "", 0, 4);
    }

    private static void worksOutAhead() {
        sets("{echo 5|set a;echo 1}|add $a", 5, 200, "101", 0, 2);
        sets("{echo 5|set a;echo $a}|add 1", 5, 200, "6", 0, 2);
        sets("{echo 5|set a};echo $a", 5, 200, "5", 0, 1);
        sets("{echo 5|set a}|echo $a", 100, 200, "100", 0, 0);
    }

    private static void functions() {
        ShellLines x = Check.with("echo $p|add 1", "f 5", "f 5|add $p", "f $a;g 2;f 3", "{echo $p}|mul $p", "g 1;h 1");
        x.define(0, 0);
        x.value(0, 9);
        C.runs(x, 1, "6", 0, 1);
        C.runs(x, 2, "6", 0, 2);
        x.define(1, 4);
        C.runs(x, 3, "10 4 4", 0, 3);
        x.define(2, 2);
        // f 5 in h: $p of h is 1, of f 5.
        C.runs(x, 5, "1 7", 0, 3);
        // Digits are what they read, in FUNCTIONS, too.
        ShellLines y = Check.with("echo 0 1 $p", "f 7");
        y.define(0, 0);
        C.runs(y, 1, "0 1 7", 0, 0);
        x.define(0, 5);
        x.define(1, -1);
        x.define(2, -1);
        C.runs(x, 1, "", 1, 0);
    }

    private static void deepFunctions() {
        // f calls itself; each goes for the rest of 4, and the fifth is told 9.
        ShellLines x = Check.with("echo $p;f $p", "f 7", "f 7/echo 1", "{f 3}|add 1", "g 1", "f 1;echo 5");
        x.define(0, 0);
        C.runs(x, 1, "7 7 7 7", 9, 0);
        C.runs(x, 2, "7 7 7 7 1", 0, 0);
        C.runs(x, 3, "4 4 4 4", 0, 4);
        C.due("FUEL that is left", x.on(1, 3), 60 - 1 - 8);
        x.define(1, 5);
        // Two that are over do not count: g is going as f goes, f is not as g goes on.
        C.runs(x, 4, "1 1 1 5", 0, 0);
        ShellLines y = Check.with("g $p;g $p", "echo $p", "f 6");
        y.define(0, 0);
        y.define(1, 1);
        C.runs(y, 2, "6 6", 0, 0);
    }

    private static void functionsWithoutLine() {
        ShellLines x = Check.with("f 3", "f 3/echo 2", "f 3|sum", "f 3;h 1", "g 1");
        C.runs(x, 0, "", 1, 0);
        C.runs(x, 1, "2", 0, 0);
        C.runs(x, 2, "0", 0, 0);
        C.due("FUEL of none", x.on(0, 3), 59);
        // f has no LINE also where 4 are going.
        ShellLines y = Check.with("f 1", "g 1", "h 1");
        y.define(0, 1);
        y.define(1, 0);
        C.runs(y, 0, "", 9, 0);
        ShellLines z = Check.with("f $p|add 1/g 1", "f 1");
        z.define(0, 0);
        C.runs(z, 1, "", 0, 0);
    }

    private static void deepestLists() {
        String behind = "|sum|sum|sum|sum|add 1";
        String deep = "{{{f 1" + behind + "}" + behind + "}" + behind + "}" + behind;
        ShellLines x = Check.with("ok", deep);
        x.define(0, 1);
        // 5 times 4 LISTS, each adds 1 to the 0 that the innermost f leaves to sum.
        C.due("run of the deepest", x.run(1), 1);
        C.due("what it wrote", x.told(40), 20);
        C.due("its STATUS", x.told(1), 0);
        C.due("its FUEL", x.on(1, 3), 60 - 20);
        x.job(1);
        C.due("a JOB of the deepest", x.turn(0), 20);
        C.due("its END", x.turn(0), ShellLines.NO);
    }

    private static void fuel() {
        ShellLines x = Check.with("ok;ok;ok;ok;ok;ok;ok;ok;ok;ok", "g 1;g 1;g 1;g 1;g 1;g 1", "g 1;g 1;g 1;g 1;g 1",
                "g 1;g 1;g 1;g 1;g 1;g 1;echo 5", "{g 1;g 1;g 1;g 1;g 1;ok;ok;ok;echo 1;echo 2}", "ok;{ok;ok};ok");
        x.define(1, 0);
        C.runs(x, 1, "", 8, 0);
        C.due("FUEL left of 60", x.on(1, 3), 0);
        C.due("FUEL left of 55", x.on(2, 3), 5);
        C.runs(x, 2, "", 0, 0);
        C.runs(x, 3, "", 8, 0);
        C.due("FUEL left", x.on(3, 3), 0);
        // 1 and 5 times 11, and 4 more.
        C.runs(x, 4, "1", 8, 0);
        C.due("FUEL left of a LIST in braces", x.on(5, 3), 60 - 5);
        C.due("FUEL of one PIPE", x.on(0, 3), 50);
    }

    private static void fuelAndJoins() {
        String sixty = "g 1;g 1;g 1;g 1;g 1;ok;ok;ok;ok";
        ShellLines x = Check.with("ok;ok;ok;ok;ok;ok;ok;ok;ok;ok", sixty + ";ok&echo 1", sixty + ";ok&echo 1/echo 2",
                sixty + ";ok;ok/echo 1", sixty + "/echo 2", sixty + "&echo 2", sixty + ";ok;echo 5");
        x.define(1, 0);
        // 5 times 11 and 4 are 59: one more PIPE begins.
        C.runs(x, 1, "", 8, 0);
        C.runs(x, 2, "", 8, 0);
        C.runs(x, 3, "", 8, 0);
        C.runs(x, 4, "", 0, 0);
        C.runs(x, 5, "2", 0, 0);
        C.runs(x, 6, "", 8, 0);
        C.due("FUEL where one doesn't go", x.on(4, 3), 1);
    }

    private static void traps() {
        ShellLines x = Check.with("echo 1;fail 3", "echo 8 9|add $p;echo 4|set a;fail 6", "echo 1", "g 5", "echo $p;fail $p");
        x.trap(1);
        C.runs(x, 0, "1 8 9", 3, 3);
        C.due("VALUE by THE TRAP", x.told(10), 4);
        C.due("FUEL by THE TRAP", x.on(0, 3), 60 - 5);
        C.runs(x, 2, "1", 0, 0);
        C.due("FUEL without THE TRAP", x.on(2, 3), 59);
        // THE TRAP runs once, also if it is the LINE itself.
        C.runs(x, 1, "8 9 8 9", 6, 6);
        x.trap(0);
        C.runs(x, 0, "1 1", 3, 0);
        x.define(1, 4);
        x.trap(4);
        // $p of THE TRAP is 0, whatever was going.
        C.runs(x, 3, "5 0", 5, 0);
        x.trap(-1);
        C.runs(x, 0, "1", 3, 0);
    }

    private static void trapsAndFuel() {
        ShellLines x = Check.with("ok;ok;ok;ok;ok;ok;ok;ok;ok;ok", "g 1;g 1;g 1;g 1;g 1;fail 4", "echo 1;echo 2;echo 3;echo 4;echo 5",
                "g 1;g 1;g 1;g 1;g 1;g 1");
        x.define(1, 0);
        x.trap(2);
        C.runs(x, 1, "1 2 3 4", 4, 0);
        C.due("FUEL left", x.on(1, 3), 0);
        C.runs(x, 3, "", 8, 0);
    }

    private static void leftOut() {
        ShellLines x = Check.with("seq 99", "seq 59;echo 7 8 9", "{seq 99}|sum", "{seq 59;echo 7 8 9}|sum", "f 1|sum", "seq 58;fail 2", "echo 1 2 3 4",
                "seq 99;echo 5|set a");
        C.due("OUT of 99", x.run(0), 60);
        C.due("the last of OUT", x.told(99), 60);
        C.due("behind the last", x.told(100), ShellLines.NO);
        C.due("OUT of 62", x.run(1), 60);
        C.due("the last of OUT", x.told(99), 7);
        C.runs(x, 2, "1830", 0, 60);
        C.runs(x, 3, "1777", 0, 60);
        x.define(0, 0);
        C.runs(x, 4, "1830", 0, 60);
        x.trap(6);
        C.due("OUT with THE TRAP", x.run(5), 60);
        C.due("the last of OUT", x.told(99), 2);
        C.due("STATUS", x.told(1), 2);
        // What is left out does not end the LIST.
        x.run(7);
        C.due("VALUE behind what is left out", x.told(10), 5);
    }
}
