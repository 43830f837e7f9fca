/** Promises 1 to 12, and what the Terms tell of JOBS: each sentence by its edges. */
public final class EdgesOfCallsTest {
    private static final int MAX = Integer.MAX_VALUE;
    private static final int MIN = Integer.MIN_VALUE;
    private static final long NO = ShellLines.NO;
    private static final Check C = new Check("EdgesOfCallsTest");

    public static void main(String[] args) {
        newObject();
        numbers();
        feed();
        feedIsFull();
        line();
        lineIsFull();
        ofPipes();
        ofStages();
        ofDepth();
        ofNone();
        define();
        trap();
        value();
        run();
        toldOfNoRun();
        toldOfRun();
        toldOfNow();
        toldOfOut();
        toldNone();
        leastNumber();
        ownFuel();
        onlyAsAsked();
        asAbove();
        sixtyInJobs();
        turnToANumber();
        turnToEnd();
        parameterOfJobs();
        beginsAsOneGetsToIt();
        jobIsFull();
        turnOfNone();
        stop();
        C.end();
    }

    private static void newObject() {
        C.says("ShellLines(): No LINES.");
        ShellLines x = new ShellLines();
        C.due("LINES", x.count(0), 0);
        C.due("LINE 0", x.run(0), -1);
        C.due("LINE 0", x.of(0, 0), -1);
        C.due("the first LINE", Check.line(x, "ok"), 0);
        C.due("of another object", new ShellLines().count(0), 0);
    }

    private static void numbers() {
        C.says("NAMES are numbered 0 (a) to 4 (e), FUNCTIONS 0 (f), 1 (g), 2 (h).");
        for (int name = 0; name < 5; name++) {
            char letter = "abcde".charAt(name);
            ShellLines x = Check.with("echo $" + letter, "echo 8|set " + letter, "echo 0|add $" + letter);
            x.value(name, 7);
            C.runs(x, 0, "7", 0, 0);
            C.due("fits of " + letter, x.fits(0, name, 0), 20);
            x.see(0, 7);
            C.due("fits of " + letter, x.fits(0, name, 1), 7);
            x.run(1);
            C.due("told of " + letter, x.told(10 + name), 8);
            C.due("odds of " + letter, Check.with("fail $" + letter).odds(0, name, 1), 10);
            x.book(name, 8);
            C.due("looked at " + letter, x.looked(), -5);
            x.plan(1, name);
            C.due("ends of " + letter, x.ends(name), 0);
        }
        for (int function = 0; function < 3; function++) {
            ShellLines x = Check.with("fgh".charAt(function) + " 1|set a", "echo 6");
            x.define(function, 1);
            C.runs(x, 0, "", 0, 1);
            C.due("told of FUNCTION " + function, x.told(20 + function), 1);
            x.value(0, 0);
            x.plan(0, 0);
            C.due("ends of FUNCTION " + function, x.ends(0), 6);
            x.plan(-1, 0);
            x.plan(2, function);
            x.plan(0, 0);
            C.due("ends of no FUNCTION " + function, x.ends(0), 0);
        }
    }

    private static void feed() {
        C.says("A sign (0 .. 127) comes behind THE TEXT's: how many it has. BAD;");
        ShellLines x = new ShellLines();
        for (int sign : new int[] {-1, -128, MIN, 128, 255, 256, MAX}) {
            C.due("feed(" + sign + ")", x.feed(sign), -2);
            C.due("bytes then", x.count(5), 0);
        }
        C.due("the least sign", x.feed(0), 1);
        C.due("the greatest sign", x.feed(127), 2);
        C.due("bytes then", x.count(5), 2);
        x.line();
        for (int i = 0; i < 2; i++) {
            C.due("'o' or 'k'", x.feed("ok".charAt(i)), i + 1);
        }
        C.due("both in their order", x.line(), 0);
    }

    private static void feedIsFull() {
        C.says("BAD; FULL.");
        ShellLines x = new ShellLines();
        for (int i = 1; i <= 100; i++) {
            C.due("byte " + i, x.feed('o'), i);
        }
        C.due("byte 101", x.feed('o'), -4);
        C.due("byte 101", x.feed(0), -4);
        C.due("byte 101 that is none", x.feed(-1), -2);
        C.due("byte 101 that is none", x.feed(128), -2);
        C.due("bytes", x.count(5), 100);
    }

    private static void line() {
        C.says("THE TEXT, which is empty then (by a FAULT, too), is a LINE: its number; -10 less the FAULT.");
        ShellLines x = new ShellLines();
        C.due("of no TEXT", x.line(), -10);
        C.due("the first LINE", Check.line(x, "ok"), 0);
        C.due("bytes", x.count(5), 0);
        C.due("of no TEXT", x.line(), -10);
        C.due("a FAULT at 0", Check.line(x, "?ok"), -10);
        C.due("bytes", x.count(5), 0);
        C.due("a FAULT at 2", Check.line(x, "ok?"), -12);
        C.due("bytes", x.count(5), 0);
        C.due("the second LINE", Check.line(x, "sum"), 1);
        C.due("bytes", x.count(5), 0);
        StringBuilder far = new StringBuilder("ok");
        for (int i = 0; i < 32; i++) {
            far.append(";ok");
        }
        C.due("a FAULT at 99", Check.line(x, far + ";?"), -10 - 99);
        C.due("a FAULT at 100", Check.line(x, far + "|f"), -10 - 99);
        C.due("a FAULT at 100", Check.line(x, far.substring(0, 95) + ";seq "), -10 - 100);
        C.due("LINES", x.count(0), 2);
    }

    private static void lineIsFull() {
        C.says("FULL: there are 8 (THE TEXT stays).");
        ShellLines x = Check.with("ok", "ok", "ok", "ok", "ok", "ok", "ok");
        C.due("the 8th", Check.line(x, "sum"), 7);
        C.due("a 9th", Check.line(x, "sum"), -4);
        C.due("THE TEXT", x.count(5), 3);
        C.due("a 9th again", x.line(), -4);
        C.due("a byte behind it", x.feed('?'), 4);
        C.due("a 9th with a FAULT", x.line(), -4);
        C.due("THE TEXT", x.count(5), 4);
        C.due("LINES", x.count(0), 8);
        ShellLines y = Check.with("ok", "ok", "ok", "ok", "ok", "ok", "ok", "ok");
        C.due("a 9th of no TEXT", y.line(), -4);
    }

    private static void ofPipes() {
        C.says("Of a LINE what 0 how many PIPES its LIST has,");
        C.due("one", Check.with("ok|ok").of(0, 0), 1);
        C.due("four", Check.with("ok;ok&ok/ok").of(0, 0), 4);
        C.due("those in {LIST} are another's", Check.with("{ok;ok;{ok;ok}};ok").of(0, 0), 2);
        C.due("those that never GO, too", Check.with("ok/ok/ok").of(0, 0), 3);
    }

    private static void ofStages() {
        C.says("1 how many STAGES all PIPES in it have, those in {LIST}, too,");
        C.due("one", Check.with("ok").of(0, 1), 1);
        C.due("six and one", Check.with("ok|ok|ok|ok|ok|ok;ok").of(0, 1), 7);
        C.due("{LIST} is one itself", Check.with("{ok}").of(0, 1), 2);
        C.due("in one another", Check.with("{{{ok}|ok}}").of(0, 1), 5);
        C.due("in and behind", Check.with("{ok|ok;ok}|ok;{ok}").of(0, 1), 7);
        C.due("a FUNCTION's are another's", Check.with("f 1").of(0, 1), 1);
        // A text with a FAULT leaves nothing to the next LINE.
        ShellLines x = new ShellLines();
        Check.line(x, "{{ok|ok;ok|nope");
        Check.line(x, "ok|ok");
        C.due("behind a FAULT", x.of(0, 1), 2);
        C.due("behind a FAULT", x.of(0, 2), 0);
    }

    private static void ofDepth() {
        C.says("2 how deep { stand in one another. NONE.");
        C.due("none", Check.with("ok").of(0, 2), 0);
        C.due("one", Check.with("{ok}").of(0, 2), 1);
        C.due("beside one another", Check.with("{ok};{ok};{ok}").of(0, 2), 1);
        C.due("two", Check.with("{ok};{{ok};ok};{ok}").of(0, 2), 2);
        C.due("three", Check.with("{{{ok}}}").of(0, 2), 3);
    }

    private static void ofNone() {
        C.says("int of(int line, int what)");
        ShellLines x = Check.with("ok", "{ok}");
        for (int line : new int[] {-1, 2, 7, 8, MAX, MIN}) {
            C.due("of(" + line + ", 0)", x.of(line, 0), -1);
        }
        for (int what : new int[] {-1, 3, 4, MAX, MIN}) {
            C.due("of(1, " + what + ")", x.of(1, what), -1);
        }
        C.due("the last LINE", x.of(1, 2), 1);
    }

    private static void define() {
        C.says("A FUNCTION has a LINE (-1: none): which it had (-5: none). NONE.");
        ShellLines x = Check.with("echo 5", "echo 6", "f 1", "h 1");
        for (int function = 0; function < 3; function++) {
            C.due("none at first", x.define(function, -1), -5);
            C.due("none still", x.define(function, 0), -5);
            C.due("the first LINE", x.define(function, 3), 0);
            C.due("the last LINE", x.define(function, 0), 3);
        }
        for (int function : new int[] {-1, 3, 4, MAX, MIN}) {
            C.due("define(" + function + ", 0)", x.define(function, 0), -1);
            C.due("define(" + function + ", -1)", x.define(function, -1), -1);
        }
        for (int line : new int[] {-2, -5, 4, 8, MAX, MIN}) {
            C.due("define(0, " + line + ")", x.define(0, line), -1);
        }
        C.runs(x, 2, "5", 0, 0);
        C.due("to none", x.define(0, -1), 0);
        C.runs(x, 2, "", 1, 0);
        C.runs(x, 3, "5", 0, 0);
        C.due("of none", x.define(0, 1), -5);
        C.runs(x, 2, "6", 0, 0);
    }

    private static void trap() {
        C.says("THE TRAP is a LINE (-1: there is none): which was (-5: none). NONE.");
        ShellLines x = Check.with("echo 5", "fail 2", "echo 6");
        C.due("none at first", x.trap(-1), -5);
        C.due("none still", x.trap(0), -5);
        C.runs(x, 1, "5", 2, 0);
        C.due("the first LINE", x.trap(2), 0);
        for (int line : new int[] {-2, -5, 3, 8, MAX, MIN}) {
            C.due("trap(" + line + ")", x.trap(line), -1);
        }
        C.runs(x, 1, "6", 2, 0);
        C.due("the last LINE", x.trap(-1), 2);
        C.runs(x, 1, "", 2, 0);
        C.due("none again", x.trap(-1), -5);
    }

    private static void value() {
        C.says("VALUE of a NAME becomes v: what it was. NO.");
        ShellLines x = Check.with("echo $a $e");
        C.due("at first", x.value(0, 1), 0);
        C.due("a", x.value(0, MIN), 1);
        C.due("a", x.value(0, MAX), MIN);
        C.due("a", x.value(0, -7), MAX);
        C.due("e", x.value(4, 9), 0);
        for (int name : new int[] {-1, 5, 6, MAX, MIN}) {
            C.due("value(" + name + ", 3)", x.value(name, 3), NO);
        }
        C.runs(x, 0, "-7 9", 0, 0);
    }

    private static void run() {
        C.says("A RUN of a LINE: how many OUT has. NONE.");
        ShellLines x = Check.with("ok", "seq 1", "seq 60", "seq 61", "echo 1;fail 2");
        int[] sizes = {0, 1, 60, 60, 1};
        for (int line = 0; line < sizes.length; line++) {
            C.due("run(" + line + ")", x.run(line), sizes[line]);
        }
        x.trap(1);
        C.due("with THE TRAP", x.run(4), 2);
        for (int line : new int[] {-1, 5, 8, MAX, MIN}) {
            C.due("run(" + line + ")", x.run(line), -1);
            C.due("OUT of the latest RUN", x.told(0), 2);
        }
    }

    private static void toldOfNoRun() {
        C.says("Of the latest RUN what 0 how many OUT has (0: there was none), 1 STATUS (0), 2 READS (0),");
        ShellLines x = Check.with("seq 3|add 1;fail 4", "ok");
        x.on(0, 0);
        x.job(0);
        C.turns(x, 0, 2, 3, 4, NO);
        for (int what = 0; what <= 2; what++) {
            C.due("told(" + what + ") of no RUN", x.told(what), 0);
        }
        C.due("OUT of no RUN", x.told(40), NO);
    }

    private static void toldOfRun() {
        C.says("Of the latest RUN what 0 how many OUT has (0: there was none), 1 STATUS (0), 2 READS (0),");
        ShellLines x = Check.with("seq 3|add 1;fail 4", "ok", "fail $a", "seq 99|add 1|add 1|add 1|add 1|add 1");
        x.run(0);
        C.due("OUT", x.told(0), 3);
        C.due("STATUS", x.told(1), 4);
        C.due("READS", x.told(2), 3);
        x.run(1);
        C.due("OUT", x.told(0), 0);
        C.due("STATUS", x.told(1), 0);
        C.due("READS", x.told(2), 0);
        x.value(0, MIN);
        x.run(2);
        C.due("STATUS", x.told(1), MIN);
        x.run(3);
        C.due("OUT", x.told(0), 60);
        C.due("READS", x.told(2), 5 * 99);
        // What a JOB reads is not the RUN's.
        x.job(0);
        C.turns(x, 0, 2, 3);
        C.due("READS of the latest RUN", x.told(2), 5 * 99);
        C.due("STATUS of the latest RUN", x.told(1), 0);
        C.due("OUT of the latest RUN", x.told(0), 60);
    }

    private static void toldOfNow() {
        C.says("10 and n VALUE of NAME n, now, 20 and f the LINE of FUNCTION f, now (-5: none), 30 the TRAP (-5),");
        ShellLines x = Check.with("seq 3|set e", "ok");
        x.run(0);
        x.value(0, -1);
        x.define(2, 1);
        x.trap(0);
        long[] values = {-1, 0, 0, 0, 3};
        for (int name = 0; name < 5; name++) {
            C.due("VALUE of " + name, x.told(10 + name), values[name]);
        }
        C.due("f", x.told(20), -5);
        C.due("g", x.told(21), -5);
        C.due("h", x.told(22), 1);
        C.due("THE TRAP", x.told(30), 0);
        x.define(2, -1);
        x.define(0, 0);
        x.trap(-1);
        C.due("f", x.told(20), 0);
        C.due("h", x.told(22), -5);
        C.due("THE TRAP", x.told(30), -5);
        x.job(0);
        x.value(4, 9);
        C.turns(x, 0, NO);
        C.due("e by a JOB", x.told(14), 3);
    }

    private static void toldOfOut() {
        C.says("40 and k OUT's number at k.");
        ShellLines x = Check.with("seq 99", "echo 7", "ok");
        x.run(0);
        C.due("the first", x.told(40), 1);
        C.due("the last", x.told(99), 60);
        C.due("behind the last", x.told(100), NO);
        x.run(1);
        C.due("the first", x.told(40), 7);
        C.due("behind the last", x.told(41), NO);
        C.due("where there was one", x.told(99), NO);
        x.run(2);
        C.due("of no OUT", x.told(40), NO);
    }

    private static void toldNone() {
        C.says("NO: there is no such.");
        ShellLines x = Check.with("seq 60");
        x.run(0);
        for (int what : new int[] {MIN, -40, -1, 3, 4, 9, 15, 16, 19, 23, 24, 29, 31, 32, 38, 39, 100, 101, MAX - 40, MAX}) {
            C.due("told(" + what + ")", x.told(what), NO);
        }
    }

    private static void leastNumber() {
        C.says("JOBS 0 .. 3 (a new one gets the least number that none has) each have a LINE,");
        ShellLines x = Check.with("echo 5", "echo 6", "echo 7", "echo 8");
        for (int job = 0; job <= 3; job++) {
            C.due("job(" + job + ")", x.job(job), job);
        }
        for (int job = 3; job >= 0; job--) {
            C.turns(x, job, 5 + job);
        }
        for (int job = 0; job <= 3; job++) {
            C.due("stop(" + job + ")", x.stop(job), job);
            C.due("a new one", x.job(0), job);
        }
        x.stop(3);
        x.stop(1);
        C.due("the least that none has", x.job(2), 1);
        C.due("the least that none has", x.job(2), 3);
        C.turns(x, 2, 5, NO);
        C.due("of one that went by itself", x.job(3), 2);
        C.turns(x, 2, 8);
    }

    private static void ownFuel() {
        C.says("and FUEL of their own, 60 at first,");
        ShellLines x = Check.with("ok;ok;ok;ok;ok;ok;ok;ok;ok;ok", "g 1;g 1;g 1;g 1;g 1;echo 1;echo 2;echo 3;echo 4;echo 5;echo 6");
        x.define(1, 0);
        for (int times = 0; times < 3; times++) {
            C.due("a JOB", x.job(1), 0);
            C.due("a JOB", x.job(1), 1);
            C.turns(x, 0, 1);
            C.runs(x, 1, "1 2 3 4 5", 8, 0);
            C.turns(x, 1, 1, 2, 3);
            x.on(1, 0);
            // The 60th PIPE begins, the 61st doesn't.
            C.turns(x, 0, 2, 3, 4, 5, NO);
            C.turns(x, 1, 4, 5, NO);
        }
    }

    private static void onlyAsAsked() {
        C.says("but only as they are asked:");
        ShellLines x = Check.with("echo 3|set a;echo 1 2;echo 4|set a;echo 3", "seq 5|add 1");
        x.job(0);
        x.job(1);
        C.turns(x, 1, 2);
        x.run(1);
        C.due("VALUE ahead of the first TURN", x.told(10), 0);
        C.turns(x, 0, 1);
        C.due("VALUE behind it", x.told(10), 3);
        x.value(0, 9);
        C.turns(x, 0, 2);
        C.due("VALUE behind the second", x.told(10), 9);
        C.turns(x, 0, 3);
        C.due("VALUE behind the third", x.told(10), 4);
        C.turns(x, 1, 3, 4, 5, 6, NO);
    }

    private static void asAbove() {
        C.says("and go through its LIST as above,");
        ShellLines x = Check.with("echo 1;fail 2&echo 2/echo 3;seq 1|mod 0/echo 4&echo 5;ok/echo 6",
                "{seq 4|keep 2;fail 1}|add 1;f 3/echo 8", "echo $p", "fail 2", "echo 7");
        x.job(0);
        C.turns(x, 0, 1, 3, 4, 5, NO);
        x.job(1);
        C.turns(x, 0, 3, 5, 8, NO);
        x.define(0, 2);
        x.job(1);
        C.turns(x, 0, 3, 5, 3, NO);
        // A JOB is no RUN: THE TRAP is none of it.
        x.trap(4);
        x.job(3);
        C.turns(x, 0, NO);
        C.due("JOBS", x.count(1), 0);
    }

    private static void sixtyInJobs() {
        C.says("What {LIST}, or a LINE of a FUNCTION, WRITES: 60 numbers at most, others are left out.");
        ShellLines x = Check.with("{seq 99}|take 61;echo 7", "seq 99;echo 8");
        x.job(0);
        x.job(1);
        for (int i = 1; i <= 60; i++) {
            C.turns(x, 0, i);
        }
        C.turns(x, 0, 7, NO);
        // The JOB's own LIST is none of those.
        for (int i = 1; i <= 99; i++) {
            C.turns(x, 1, i);
        }
        C.turns(x, 1, 8, NO);
    }

    private static void turnToANumber() {
        C.says("a TURN of one: it goes on till a number is WRITTEN: that;");
        ShellLines x = Check.with("ok;fail 2;seq 0;ok/ok;echo 5", "seq 9|keep 4", "echo $a $b", "echo 0");
        x.job(0);
        C.turns(x, 0, 5);
        x.job(1);
        C.turns(x, 1, 4, 8);
        x.value(0, MIN);
        x.value(1, MAX);
        x.job(2);
        C.turns(x, 2, MIN, MAX, NO);
        x.job(3);
        C.turns(x, 2, 0, NO);
    }

    private static void turnToEnd() {
        C.says("or till the LIST is over: END; the JOB goes then.");
        ShellLines x = Check.with("ok", "echo 5", "echo 5;echo 6|set a", "fail 3");
        x.job(0);
        C.due("JOBS", x.count(1), 1);
        C.turns(x, 0, NO);
        C.due("JOBS", x.count(1), 0);
        x.job(1);
        C.turns(x, 0, 5);
        C.due("JOBS behind its last number", x.count(1), 1);
        C.turns(x, 0, NO);
        C.due("JOBS", x.count(1), 0);
        C.due("stop of one that went", x.stop(0), -1);
        C.turns(x, 0, NO);
        x.job(2);
        C.turns(x, 0, 5, NO);
        C.due("VALUE of what is behind the last number", x.told(10), 6);
        x.job(3);
        C.turns(x, 0, NO);
        C.due("STATUS is told of RUNS alone", x.told(1), 0);
        C.due("a JOB again", x.job(1), 0);
    }

    private static void parameterOfJobs() {
        C.says("(PARAMETER is 0;");
        ShellLines x = Check.with("echo $p;f 4;{echo $p}", "echo $p 5");
        x.define(0, 1);
        x.job(0);
        C.turns(x, 0, 0, 4);
        C.runs(x, 0, "0 4 5 0", 0, 0);
        C.turns(x, 0, 5, 0, NO);
    }

    private static void beginsAsOneGetsToIt() {
        C.says("a PIPE begins as one gets to it.)");
        ShellLines x = Check.with("echo $a $a;echo $a|add $a", "echo 1;{echo $a 1}|add $a;f 1", "echo 8", "echo 9");
        x.job(0);
        x.value(0, 1);
        C.turns(x, 0, 1);
        x.value(0, 2);
        // The first PIPE began a TURN ago, the second begins now.
        C.turns(x, 0, 1);
        C.turns(x, 0, 4);
        x.value(0, 3);
        C.turns(x, 0, NO);
        x.job(1);
        C.turns(x, 0, 1);
        x.value(0, 4);
        C.turns(x, 0, 8);
        x.value(0, 5);
        C.turns(x, 0, 5);
        x.define(0, 2);
        C.turns(x, 0, 8, NO);
        // Which LINE f has is looked at as f is asked.
        x.job(1);
        x.define(0, 3);
        C.turns(x, 0, 1, 10, 6, 9, NO);
    }

    private static void jobIsFull() {
        C.says("A JOB of a LINE: its number. NONE; FULL: there are 4.");
        ShellLines x = Check.with("echo 5", "ok");
        for (int line : new int[] {-1, 2, 8, MAX, MIN}) {
            C.due("job(" + line + ")", x.job(line), -1);
        }
        C.due("JOBS", x.count(1), 0);
        for (int job = 0; job < 4; job++) {
            C.due("a JOB", x.job(job % 2), job);
        }
        C.due("a fifth", x.job(0), -4);
        C.due("a fifth of the last LINE", x.job(1), -4);
        C.due("a fifth of no LINE", x.job(2), -1);
        C.due("a fifth of no LINE", x.job(-1), -1);
        C.due("JOBS", x.count(1), 4);
        C.turns(x, 3, NO);
        C.due("a fourth", x.job(0), 3);
        C.due("a fifth", x.job(0), -4);
    }

    private static void turnOfNone() {
        C.says("A TURN of a JOB: the number (NO: END, it goes, or there is no such JOB).");
        ShellLines x = Check.with("seq 3");
        for (int job : new int[] {-1, 0, 1, 3, 4, 5, MAX, MIN}) {
            C.due("turn(" + job + ")", x.turn(job), NO);
        }
        x.job(0);
        for (int job : new int[] {-1, 1, 3, 4, MAX, MIN}) {
            C.due("turn(" + job + ")", x.turn(job), NO);
        }
        C.turns(x, 0, 1, 2, 3, NO, NO);
        for (int job = 0; job < 4; job++) {
            x.job(0);
        }
        C.turns(x, 3, 1);
        C.due("turn(4)", x.turn(4), NO);
        C.turns(x, 3, 2, 3, NO);
        C.due("JOBS", x.count(1), 3);
    }

    private static void stop() {
        C.says("A JOB goes: the LINE that it had. NONE.");
        ShellLines x = Check.with("seq 3", "ok", "seq 9");
        for (int job : new int[] {-1, 0, 3, 4, MAX, MIN}) {
            C.due("stop(" + job + ")", x.stop(job), -1);
        }
        x.job(2);
        x.job(0);
        x.job(1);
        x.job(2);
        C.due("stop(4)", x.stop(4), -1);
        C.due("stop(-1)", x.stop(-1), -1);
        C.due("JOBS", x.count(1), 4);
        C.due("the first", x.stop(0), 2);
        C.due("again", x.stop(0), -1);
        C.due("the last", x.stop(3), 2);
        C.due("JOBS", x.count(1), 2);
        C.turns(x, 0, NO);
        C.turns(x, 1, 1, 2);
        C.due("in the midst", x.stop(1), 0);
        C.due("anew", x.job(0), 0);
        C.due("anew", x.job(0), 1);
        C.turns(x, 1, 1, 2, 3, NO);
        C.due("one whose LIST would be over", x.stop(2), 1);
    }
}
