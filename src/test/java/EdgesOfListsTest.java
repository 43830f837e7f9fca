/** What the Terms tell of {LIST}, FUNCTIONS, LISTS, FUEL, RUNS and THE TRAP: each sentence by its edges. */
public final class EdgesOfListsTest {
    private static final int MIN = Integer.MIN_VALUE;
    private static final String TENS = "ok;ok;ok;ok;ok;ok;ok;ok;ok;ok";
    /** 55 of FUEL, where g is TENS. */
    private static final String FIFTY_FIVE = "g 1;g 1;g 1;g 1;g 1";
    private static final Check C = new Check("EdgesOfListsTest");

    public static void main(String[] args) {
        listAsItIsAsked();
        functionsAsTheyAreAsked();
        functionsWithoutLine();
        fourFunctions();
        fourFunctionsInFunctions();
        deepest();
        statusOfLists();
        statusOfFunctions();
        noLineWhereFourWere();
        onePipeBehindAnother();
        joins();
        pipesThatDoNotGo();
        withoutFuel();
        oneOfFuel();
        statusIsOfTheLatest();
        sixtyOfLists();
        sixtyOfFunctions();
        runs();
        sixtyOfOut();
        trap();
        parameterOfTheTrap();
        noTrap();
        trapRunsOnce();
        trapAndFuel();
        trapAndSixty();
        reads();
        C.end();
    }

    private static void listAsItIsAsked() {
        C.says("{LIST}: as it is asked first, the LIST GOES; what that WROTE, one by one.");
        C.runs("{echo 1 2;echo 3}", 0, 0, "1 2 3", 0, 0);
        C.runs("{ok}", 0, 0, "", 0, 0);
        C.runs("{{{echo 1}|add 1}|add 1}|add 1", 0, 0, "4", 0, 3);
        // The whole LIST goes for its first number, but only once, and not if it isn't asked.
        C.runs("{echo 1;seq 4|set a;echo 2}|take 1;echo $a", 7, 0, "1 4", 0, 5);
        C.runs("{echo $a|add 1|set a;echo 1 2 3};echo $a", 7, 0, "1 2 3 8", 0, 2);
        C.runs("{echo $a|add 1|set a}|sum|sum;echo $a", 7, 0, "0 8", 0, 3);
        C.runs("{seq 4|set a}|take 0;echo $a", 7, 0, "7", 0, 0);
        C.runs("{seq 4|set a}|ok;echo $a", 7, 0, "7", 0, 0);
        C.runs("{seq 4|set a}|mod 0/echo $a", 7, 0, "7", 0, 0);
    }

    private static void functionsAsTheyAreAsked() {
        C.says("f, g, h: as it is asked first, the LIST of its LINE GOES, N being the PARAMETER; what that WROTE, one by one;");
        for (int function = 0; function < 3; function++) {
            String word = "" + "fgh".charAt(function);
            ShellLines x = Check.with("echo $p 5;echo $p|set a", word + " 3", word + " $a|add 1", word + " 4|take 1", word + " 8|take 0",
                    word + " $p", word + " 999");
            x.define(function, 0);
            C.runs(x, 1, "3 5", 0, 1);
            C.runs(x, 2, "4 6", 0, 3);
            C.runs(x, 3, "4", 0, 2);
            C.due("VALUE behind " + word, x.told(10), 4);
            C.runs(x, 4, "", 0, 0);
            C.due("VALUE behind " + word + " that isn't asked", x.told(10), 4);
            C.runs(x, 5, "0 5", 0, 1);
            C.runs(x, 6, "999 5", 0, 1);
            x.value(0, MIN);
            C.runs(x, 2, (MIN + 1) + " 6", 0, 3);
        }
    }

    private static void functionsWithoutLine() {
        C.says("none, if it has no LINE,");
        ShellLines x = Check.with("f 3|sum", "f 3;echo 5", "echo 8");
        C.runs(x, 0, "0", 0, 0);
        C.runs(x, 1, "5", 0, 0);
        x.define(0, 2);
        C.runs(x, 1, "8 5", 0, 0);
        x.define(0, -1);
        C.runs(x, 1, "5", 0, 0);
    }

    /** A LINE that calls itself until no more go. */
    private static ShellLines deep() {
        ShellLines x = Check.with("f $p;echo $p", "f 7", "{{{f 7}}}", "f 7;f 8", "echo 6;fail 5", "fail 1", "{f 3}|add 1");
        x.define(0, 0);
        return x;
    }

    private static void fourFunctions() {
        C.says("or 4 FUNCTIONS are going already.");
        ShellLines x = deep();
        // The 4th is the last one that goes; what WROTE its numbers is over and counts no more.
        C.runs(x, 1, "7 7 7 7", 0, 0);
        C.runs(x, 2, "7 7 7 7", 0, 0);
        C.runs(x, 3, "7 7 7 7 8 8 8 8", 0, 0);
        C.runs(x, 6, "4 4 4 4", 0, 4);
        C.due("FUEL of 4 that go, and a fifth that doesn't", x.on(1, 3), 60 - 1 - 4 * 2);
        // THE TRAP's LIST goes outside of them.
        x.trap(1);
        C.runs(x, 5, "7 7 7 7", 1, 0);
        // And so does a JOB.
        C.due("a JOB", x.job(1), 0);
        C.turns(x, 0, 7, 7, 7, 7, ShellLines.NO);
        C.due("a JOB", x.job(3), 0);
        C.turns(x, 0, 7, 7, 7, 7, 8, 8, 8, 8, ShellLines.NO);
    }

    private static void fourFunctionsInFunctions() {
        C.says("4 FUNCTIONS are going already");
        // f, g, h and f again: whose they are does not matter.
        ShellLines x = Check.with("echo 1;g $p", "echo 2;h $p", "echo 3;f $p", "f 1", "g 1", "h 1");
        x.define(0, 0);
        x.define(1, 1);
        x.define(2, 2);
        C.runs(x, 3, "1 2 3 1", 9, 0);
        C.runs(x, 4, "2 3 1 2", 9, 0);
        C.runs(x, 5, "3 1 2 3", 9, 0);
        // f 1 goes, g in it, f in that, g in that: there f is the fifth, twice. {LIST} counts for none.
        ShellLines y = Check.with("echo 5;g $p", "ok", "f 1", "{f 3}|add 1;f 4");
        y.define(0, 0);
        y.define(1, 3);
        C.runs(y, 2, "5 6 5", 9, 1);
    }

    /** 3 { in each of the LINE and 4 FUNCTIONS, and at the end of each way in the most STAGES. */
    private static void deepest() {
        C.says("4 FUNCTIONS are going already");
        String behind = "|sum|sum|sum|sum|add 1";
        String deep = "{{{f 1" + behind + "}" + behind + "}" + behind + "}" + behind;
        ShellLines x = Check.with("ok", deep, "fail 3");
        x.define(0, 1);
        // 5 times 4 LISTS, each adds 1 to the 0 that the innermost f leaves to sum.
        C.runs(x, 1, "20", 0, 19 * 5 + 4);
        C.due("its FUEL", x.on(1, 3), 60 - 20);
        x.job(1);
        C.turns(x, 0, 20, ShellLines.NO);
        x.trap(1);
        C.runs(x, 2, "20", 3, 19 * 5 + 4);
    }

    private static void statusOfLists() {
        C.says("of {LIST}: that of the LIST;");
        C.runs("{ok}", 0, 0, "", 0, 0);
        C.runs("{fail 3}", 0, 0, "", 3, 0);
        C.runs("{fail 3;ok}", 0, 0, "", 0, 0);
        C.runs("{ok;fail $a}", -1, 0, "", -1, 0);
        C.runs("{{{fail 3}}}", 0, 0, "", 3, 0);
        C.runs("{mod 0}", 0, 0, "", 2, 0);
        C.runs("{set a}", 0, 0, "", 1, 0);
        C.runs("{fail 3&ok}", 0, 0, "", 3, 0);
        C.runs("{fail 3}|sum", 0, 0, "0", 0, 0);
        C.runs("{fail 3}/echo 1", 0, 0, "1", 0, 0);
    }

    private static void statusOfFunctions() {
        C.says("of f, g, h: that of the LINE's LIST; 1, if it has none; 9, if 4 were going.");
        for (int function = 0; function < 3; function++) {
            String word = "" + "fgh".charAt(function);
            ShellLines x = Check.with("fail $p", word + " 6", word + " 0", word + " $a", "ok;" + word + " $p", word + " 1|ok");
            C.runs(x, 1, "", 1, 0);
            C.runs(x, 5, "", 0, 0);
            x.value(0, MIN);
            x.define(function, 0);
            C.runs(x, 1, "", 6, 0);
            C.runs(x, 2, "", 0, 0);
            C.runs(x, 3, "", MIN, 0);
            C.runs(x, 5, "", 0, 0);
            x.define(function, 4);
            C.runs(x, 1, "", 9, 0);
            x.define(function, -1);
            C.runs(x, 1, "", 1, 0);
        }
        // 9 is told to the one that asked, and what stands behind it goes by that.
        ShellLines y = Check.with("f 1/echo 5", "f 1");
        y.define(0, 0);
        C.runs(y, 1, "5", 0, 0);
    }

    private static void noLineWhereFourWere() {
        C.says("1, if it has none; 9, if 4 were going.");
        // f goes on until a is 4, and then h is asked, which has no LINE: what is named first is told.
        ShellLines x = Check.with("echo $a|add 1|set a;echo $a|keep 4|set b/f 1&h 1", "f 1", "ok");
        x.define(0, 0);
        C.runs(x, 1, "", 1, 13);
        x.value(0, 0);
        x.define(2, 2);
        C.runs(x, 1, "", 9, 13);
        // Where 3 are going it has a LINE, and goes.
        x.value(0, 1);
        C.runs(x, 1, "", 0, 10);
    }

    private static void onePipeBehindAnother() {
        C.says("A LIST GOES: its PIPES GO, one behind another;");
        C.runs("echo 1;echo 2;echo 3", 0, 0, "1 2 3", 0, 0);
        C.runs("fail 1;echo 2", 0, 0, "2", 0, 0);
        C.runs("echo 5|set a;echo $a|set b;echo $b", 0, 0, "5", 0, 2);
    }

    private static void joins() {
        C.says("one behind & only if STATUS is 0 ahead of it, one behind / only if it isn't;");
        C.runs("ok&echo 1", 0, 0, "1", 0, 0);
        C.runs("ok/echo 1", 0, 0, "", 0, 0);
        for (int status : new int[] {1, -1, 2, MIN, Integer.MAX_VALUE}) {
            C.runs("fail $a&echo 1", status, 0, "", status, 0);
            C.runs("fail $a/echo 1", status, 0, "1", 0, 0);
            C.runs("fail $a;echo 1", status, 0, "1", 0, 0);
        }
        C.runs("mod 0/echo 1", 0, 0, "1", 0, 0);
        C.runs("set a/echo 1", 0, 0, "1", 0, 0);
        C.runs("f 1/echo 1", 0, 0, "1", 0, 0);
        C.runs("{fail 1}/echo 1", 0, 0, "1", 0, 0);
        C.runs("{ok&{fail 2/echo 1}}", 0, 0, "1", 0, 0);
    }

    private static void pipesThatDoNotGo() {
        C.says("one that doesn't GO changes nothing.");
        C.runs("ok/fail 3", 0, 0, "", 0, 0);
        C.runs("fail 2&ok", 0, 0, "", 2, 0);
        C.runs("fail 2&fail 3&echo 1/echo 2", 0, 0, "2", 0, 0);
        C.runs("ok/fail 1/fail 2&echo 3", 0, 0, "3", 0, 0);
        C.runs("fail 2&echo 4|set a;echo $a", 7, 0, "7", 0, 0);
        C.due("FUEL", Check.with("ok/ok/ok&ok").on(0, 3), 58);
        C.due("FUEL", Check.with("fail 1&ok&ok/ok").on(0, 3), 58);
    }

    /** g is TENS there, of 11 with the PIPE that asks it; the LINES told come behind that. */
    private static ShellLines withTens(String... texts) {
        String[] all = new String[texts.length + 1];
        all[0] = TENS;
        System.arraycopy(texts, 0, all, 1, texts.length);
        ShellLines x = Check.with(all);
        x.define(1, 0);
        return x;
    }

    private static void withoutFuel() {
        C.says("But with no FUEL left no PIPE begins: it WRITES nothing, and STATUS is 8.");
        ShellLines x = withTens(FIFTY_FIVE + ";ok;ok;ok;ok;echo 5", FIFTY_FIVE + ";ok;ok;ok;ok;ok;echo 5",
                FIFTY_FIVE + ";ok;ok;ok;ok;fail 3&echo 5", FIFTY_FIVE + ";ok;ok;ok;ok;fail 3/echo 5", FIFTY_FIVE + ";ok;ok;ok;ok;echo 4/echo 5",
                FIFTY_FIVE + ";ok;ok;ok;ok;{echo 5}", FIFTY_FIVE + ";ok;ok;ok;ok;ok;echo 5|set a/ok&fail 3");
        C.runs(x, 1, "5", 0, 0);
        C.due("FUEL behind the 60th", x.on(1, 3), 0);
        C.runs(x, 2, "", 8, 0);
        C.due("FUEL behind the 61st", x.on(2, 3), 0);
        // One that doesn't GO isn't one without FUEL.
        C.runs(x, 3, "", 3, 0);
        C.runs(x, 4, "", 8, 0);
        C.runs(x, 5, "4", 0, 0);
        C.runs(x, 6, "", 8, 0);
        C.runs(x, 7, "", 8, 0);
        C.due("VALUE of what did not begin", x.told(10), 0);
    }

    private static void oneOfFuel() {
        C.says("Each that begins takes 1 of FUEL.");
        String[] texts = {"ok", "seq 99|add 1|add 1|add 1|add 1|sum", "{ok}", "{{{ok}}}", "{ok;ok}|sum;ok", "{ok;ok}|take 0", "f 1", "ok&ok", "ok/ok"};
        int[] takes = {1, 1, 2, 4, 4, 1, 1, 2, 1};
        for (int i = 0; i < texts.length; i++) {
            C.due("FUEL that " + texts[i] + " leaves", Check.with(texts[i]).on(0, 3), 60 - takes[i]);
        }
        ShellLines x = withTens("g 1", "g 1;g 1", "g 1|take 0");
        C.due("FUEL that a FUNCTION leaves", x.on(1, 3), 60 - 11);
        C.due("FUEL that two leave", x.on(2, 3), 60 - 22);
        C.due("FUEL of one that isn't asked", x.on(3, 3), 60 - 1);
    }

    private static void statusIsOfTheLatest() {
        C.says("STATUS of a LIST is that of the latest PIPE (one without FUEL, too).");
        C.runs("fail 3;ok", 0, 0, "", 0, 0);
        C.runs("ok;fail 3", 0, 0, "", 3, 0);
        C.runs("fail 3;fail 4", 0, 0, "", 4, 0);
        C.runs("fail 3&ok", 0, 0, "", 3, 0);
        ShellLines x = withTens(FIFTY_FIVE + ";ok;ok;ok;{ok;ok}&echo 1", FIFTY_FIVE + ";ok;ok;{ok;ok}&echo 1", FIFTY_FIVE + ";ok;ok;ok;ok;{ok}|sum");
        C.runs(x, 1, "", 8, 0);
        C.runs(x, 2, "", 8, 0);
        // The LIST had no FUEL, the PIPE that it stands in ends with sum.
        C.runs(x, 3, "0", 0, 0);
    }

    private static void sixtyOfLists() {
        C.says("What {LIST}, or a LINE of a FUNCTION, WRITES: 60 numbers at most, others are left out.");
        C.runs("{seq 59}|sum", 0, 0, "1770", 0, 59);
        C.runs("{seq 60}|sum", 0, 0, "1830", 0, 60);
        C.runs("{seq 61}|sum", 0, 0, "1830", 0, 60);
        C.runs("{seq 59;echo 7 8}|sum", 0, 0, "1777", 0, 60);
        C.runs("{{seq 99};echo 5}|sum", 0, 0, "1830", 0, 60);
        // What is left out goes all the same.
        C.runs("{seq 99;echo 5|set a}|sum;echo $a", 7, 0, "1830 5", 0, 61);
        C.runs("{seq 99;fail 4}", 0, 0, listTo(60), 4, 0);
        // Of each LIST on its own, and of none that is no LIST.
        C.runs("{seq 40}|sum;{seq 40}|sum", 0, 0, "820 820", 0, 80);
        C.runs("seq 61|sum", 0, 0, "1891", 0, 61);
    }

    private static void sixtyOfFunctions() {
        C.says("What {LIST}, or a LINE of a FUNCTION, WRITES: 60 numbers at most, others are left out.");
        ShellLines x = Check.with("seq $p", "f 59|sum", "f 60|sum", "f 61|sum", "f 99|sum;f 2", "seq 59;echo 7 8;fail 4", "f 1|sum", "f 1/ok");
        x.define(0, 0);
        C.runs(x, 1, "1770", 0, 59);
        C.runs(x, 2, "1830", 0, 60);
        C.runs(x, 3, "1830", 0, 60);
        C.runs(x, 4, "1830 1 2", 0, 60);
        x.define(0, 5);
        C.runs(x, 6, "1777", 0, 60);
        C.runs(x, 7, listTo(59) + " 7", 0, 0);
    }

    private static String listTo(int most) {
        StringBuilder list = new StringBuilder("1");
        for (int i = 2; i <= most; i++) {
            list.append(" ").append(i);
        }
        return list.toString();
    }

    private static void runs() {
        C.says("A RUN of a LINE: FUEL is 60, its LIST GOES;");
        ShellLines x = withTens(FIFTY_FIVE + ";ok;ok;ok;ok;echo 5", FIFTY_FIVE + ";ok;ok;ok;ok;ok;echo 5");
        for (int times = 0; times < 3; times++) {
            C.runs(x, 1, "5", 0, 0);
            C.runs(x, 2, "", 8, 0);
        }
    }

    private static void sixtyOfOut() {
        C.says("OUT: what it WROTE (60 at most, others are left out); STATUS.");
        for (int n = 58; n <= 62; n++) {
            C.runs("seq " + n, 0, 0, listTo(Math.min(n, 60)), 0, 0);
        }
        C.runs("seq 59;echo 7 8;fail 4", 0, 0, listTo(59) + " 7", 4, 0);
        C.runs("seq 60;echo 7;ok", 0, 0, listTo(60), 0, 0);
        ShellLines x = Check.with("seq 99;echo 5|set a");
        C.due("OUT", x.run(0), 60);
        C.due("VALUE behind what is left out", x.told(10), 5);
    }

    private static void trap() {
        C.says("If STATUS isn't 0, and there is a TRAP, the LIST of that GOES, too (with the FUEL that is left); what it WRITES comes behind; STATUS stays.");
        for (int status : new int[] {1, -1, 8, 999, MIN}) {
            ShellLines x = Check.with("echo 1;fail $b", "echo 8 9;echo 4|set a", "echo 7;fail 3");
            x.value(1, status);
            x.trap(1);
            C.runs(x, 0, "1 8 9", status, 1);
            C.due("VALUE by THE TRAP", x.told(10), 4);
            x.trap(2);
            C.runs(x, 0, "1 7", status, 0);
        }
    }

    private static void parameterOfTheTrap() {
        C.says("(0 outside of FUNCTIONS)");
        ShellLines x = Check.with("f 5", "fail $p", "echo 1|add $p;{echo $p}");
        x.define(0, 1);
        x.trap(2);
        C.runs(x, 0, "1 0", 5, 1);
    }

    private static void noTrap() {
        C.says("If STATUS isn't 0, and there is a TRAP,");
        ShellLines x = Check.with("echo 1", "echo 2", "fail 2;ok", "{fail 2}|ok", "fail 2/echo 3", "fail 2");
        x.trap(1);
        C.runs(x, 0, "1", 0, 0);
        C.runs(x, 2, "", 0, 0);
        C.runs(x, 3, "", 0, 0);
        C.runs(x, 4, "3", 0, 0);
        C.runs(x, 5, "2", 2, 0);
        x.trap(-1);
        C.runs(x, 5, "", 2, 0);
    }

    private static void trapRunsOnce() {
        C.says("the LIST of that GOES, too");
        ShellLines x = Check.with("echo 1;fail 2", "{fail 3};echo 4", "f 1;ok");
        x.trap(0);
        C.runs(x, 0, "1 1", 2, 0);
        // Neither a {LIST} nor a FUNCTION has one.
        C.runs(x, 1, "4", 0, 0);
        x.define(0, 0);
        C.runs(x, 2, "1", 0, 0);
    }

    private static void trapAndFuel() {
        C.says("(with the FUEL that is left)");
        ShellLines x = withTens(FIFTY_FIVE + ";fail 3", "echo 1;echo 2;echo 3;echo 4;echo 5", FIFTY_FIVE + ";ok;ok;ok;ok;fail 3", FIFTY_FIVE + ";" + "g 1",
                "echo 6/echo 7");
        x.trap(2);
        C.runs(x, 1, "1 2 3 4", 3, 0);
        C.due("FUEL left", x.on(1, 3), 0);
        C.runs(x, 3, "", 3, 0);
        C.runs(x, 4, "", 8, 0);
        x.trap(5);
        C.runs(x, 1, "6", 3, 0);
        C.due("FUEL left", x.on(1, 3), 3);
    }

    private static void trapAndSixty() {
        C.says("what it WRITES comes behind;");
        ShellLines x = Check.with("seq 58;fail 2", "echo 1 2 3", "seq 99;fail 2", "seq 99", "fail 2");
        x.trap(1);
        C.runs(x, 0, listTo(58) + " 1 2", 2, 0);
        C.runs(x, 2, listTo(60), 2, 0);
        x.trap(3);
        C.runs(x, 4, listTo(60), 2, 0);
    }

    private static void reads() {
        C.says("READS: how many numbers all STAGES got from those ahead, together.");
        C.runs("seq 9", 0, 0, "1 2 3 4 5 6 7 8 9", 0, 0);
        C.runs("ok|add 1", 0, 0, "", 0, 0);
        C.runs("seq 2|add 1", 0, 0, "2 3", 0, 2);
        C.runs("seq 2|add 1|add 1|add 1|add 1|add 1", 0, 0, "6 7", 0, 10);
        C.runs("seq 2|add 1;seq 3|sum", 0, 0, "2 3 6", 0, 5);
        C.runs("{seq 2|add 1}", 0, 0, "2 3", 0, 2);
        C.runs("{seq 2|add 1}|take 1", 0, 0, "2", 0, 3);
        // Those that are left out are got, too.
        C.runs("seq 99|add 1|sum", 0, 0, "5049", 0, 198);
        C.due("numbers got for 60 of OUT", Check.with("seq 99|add 0").on(0, 2), 99);
        ShellLines x = Check.with("fail 1", "seq 4|sum", "f 1|add 1", "seq 3|sum;fail 2");
        x.trap(1);
        C.runs(x, 0, "10", 1, 4);
        C.runs(x, 3, "6 10", 2, 7);
        x.define(0, 1);
        C.runs(x, 2, "11", 0, 5);
        C.runs(x, 1, "10", 0, 4);
    }
}
