/** Promises 10 to 12: JOBS. */
public final class JobsTest {
    private static final Check C = new Check("JobsTest");

    public static void main(String[] args) {
        numbers();
        turns();
        goesOnlyAsAsked();
        beginsAsOneGetsToIt();
        besideRuns();
        ownFuel();
        functions();
        parameter();
        joins();
        writesMoreThanSixty();
        atOnce();
        noTrap();
        C.end();
    }

    private static void numbers() {
        ShellLines x = Check.with("echo 1", "ok", "seq 3");
        C.due("job(-1)", x.job(-1), -1);
        C.due("job(3)", x.job(3), -1);
        C.due("stop(0)", x.stop(0), -1);
        C.due("turn(0)", x.turn(0), ShellLines.NO);
        for (int i = 0; i < 4; i++) {
            C.due("job", x.job(i % 3), i);
            C.due("JOBS", x.count(1), i + 1);
        }
        C.due("a fifth", x.job(0), -4);
        C.due("a fifth of no LINE", x.job(9), -1);
        C.due("stop(2)", x.stop(2), 2);
        C.due("stop(2) again", x.stop(2), -1);
        C.due("stop(1)", x.stop(1), 1);
        C.due("JOBS", x.count(1), 2);
        C.due("the least number", x.job(2), 1);
        C.due("the next", x.job(1), 2);
        C.due("stop(4)", x.stop(4), -1);
        C.due("stop(-1)", x.stop(-1), -1);
        C.due("turn(4)", x.turn(4), ShellLines.NO);
        C.due("turn(-1)", x.turn(-1), ShellLines.NO);
        C.due("turn(2) of ok", x.turn(2), ShellLines.NO);
        C.due("JOBS", x.count(1), 3);
        C.due("stop of one that went", x.stop(2), -1);
    }

    private static void turn(ShellLines x, int job, long... want) {
        for (long number : want) {
            C.due("turn(" + job + ")", x.turn(job), number);
        }
    }

    private static void turns() {
        ShellLines x = Check.with("seq 2;ok;fail 3;echo 7|add 1", "{echo 4 5}|mul 2;seq 1");
        x.job(0);
        x.job(1);
        turn(x, 0, 1, 2);
        turn(x, 1, 8);
        turn(x, 0, 8);
        turn(x, 1, 10, 1, ShellLines.NO, ShellLines.NO);
        C.due("JOBS", x.count(1), 1);
        turn(x, 0, ShellLines.NO);
        C.due("JOBS", x.count(1), 0);
        C.due("a JOB again", x.job(1), 0);
        turn(x, 0, 8, 10);
        x.stop(0);
        C.due("a JOB anew", x.job(1), 0);
        turn(x, 0, 8);
        // One that is stopped in the midst of a PIPE leaves nothing behind.
        x.stop(0);
        C.due("a JOB anew", x.job(0), 0);
        turn(x, 0, 1);
        x.stop(0);
        C.due("a JOB anew", x.job(1), 0);
        turn(x, 0, 8, 10, 1, ShellLines.NO);
    }

    private static void goesOnlyAsAsked() {
        ShellLines x = Check.with("echo 3|set a;echo 1;echo 4|set a");
        x.job(0);
        C.due("VALUE ahead of a TURN", x.told(10), 0);
        turn(x, 0, 1);
        C.due("VALUE in the midst", x.told(10), 3);
        turn(x, 0, ShellLines.NO);
        C.due("VALUE at END", x.told(10), 4);
    }

    private static void beginsAsOneGetsToIt() {
        ShellLines x = Check.with("echo 1|add $a;echo 2|add $a", "{echo 1;echo $b}|add $a");
        x.value(0, 10);
        x.job(0);
        x.value(0, 20);
        turn(x, 0, 21);
        x.value(0, 30);
        turn(x, 0, 32, ShellLines.NO);
        x.job(1);
        x.value(1, 5);
        turn(x, 0, 31);
        // Both were worked out by the first TURN.
        x.value(0, 40);
        x.value(1, 6);
        turn(x, 0, 35, ShellLines.NO);
    }

    private static void besideRuns() {
        ShellLines x = Check.with("seq 4|add $a", "seq 3|sum|set a", "{seq 3}|add 1");
        x.job(0);
        x.job(2);
        turn(x, 0, 1);
        turn(x, 1, 2);
        C.runs(x, 1, "", 0, 4);
        turn(x, 0, 2);
        C.due("READS of the latest RUN", x.told(2), 4);
        C.due("OUT of the latest RUN", x.told(0), 0);
        C.runs(x, 2, "2 3 4", 0, 3);
        turn(x, 1, 3);
        x.on(2, 0);
        x.mean(0, 0);
        turn(x, 1, 4, ShellLines.NO);
        turn(x, 0, 3, 4, ShellLines.NO);
        C.due("STATUS of the latest RUN", x.told(1), 0);
        C.due("OUT of the latest RUN", x.told(0), 3);
    }

    private static void ownFuel() {
        String tens = "ok;ok;ok;ok;ok;ok;ok;ok;ok;ok";
        ShellLines x = Check.with(tens, "g 1;g 1;g 1;echo 1;g 1;g 1;echo 2;echo 3;echo 4;echo 5", "g 1;echo 9");
        x.define(1, 0);
        x.job(1);
        x.job(2);
        turn(x, 0, 1);
        turn(x, 1, 9);
        C.runs(x, 2, "9", 0, 0);
        // 33 and 1 and 22 are 56: four more begin, the last of them is echo 5.
        turn(x, 0, 2, 3, 4, 5, ShellLines.NO);
        x.job(1);
        turn(x, 0, 1, 2, 3, 4, 5, ShellLines.NO);
        ShellLines y = Check.with(tens, "g 1;g 1;g 1;g 1;g 1;ok;echo 1;echo 2;echo 3;echo 4;echo 5;echo 6");
        y.define(1, 0);
        y.job(0);
        y.job(1);
        turn(y, 1, 1, 2, 3, 4, ShellLines.NO);
        turn(y, 0, ShellLines.NO);
    }

    private static void functions() {
        ShellLines x = Check.with("echo 1 2|add $p", "g 5;g 6", "echo 7 8");
        x.job(1);
        x.define(1, 0);
        turn(x, 0, 6);
        // What g WROTE stands; the next g goes by what is then.
        x.define(1, 2);
        turn(x, 0, 7, 7, 8, ShellLines.NO);
        x.job(1);
        turn(x, 0, 7);
        x.define(1, -1);
        turn(x, 0, 8, ShellLines.NO);
    }

    private static void parameter() {
        ShellLines x = Check.with("echo $p;f 4", "echo $p", "f 2;f 3");
        x.define(0, 1);
        x.job(0);
        turn(x, 0, 0, 4, ShellLines.NO);
        x.define(0, 2);
        x.job(0);
        turn(x, 0, 0, ShellLines.NO);
    }

    private static void joins() {
        ShellLines x = Check.with("echo 1;fail 2&echo 2/echo 3;seq 1|mod 0/echo 4&echo 5;ok/echo 6");
        x.job(0);
        turn(x, 0, 1, 3, 4, 5, ShellLines.NO);
    }

    private static void writesMoreThanSixty() {
        ShellLines x = Check.with("seq 99;echo 5", "{seq 99}");
        x.job(0);
        x.job(1);
        for (int i = 1; i <= 99; i++) {
            turn(x, 0, i);
        }
        turn(x, 0, 5, ShellLines.NO);
        for (int i = 1; i <= 60; i++) {
            turn(x, 1, i);
        }
        turn(x, 1, ShellLines.NO);
    }

    private static void atOnce() {
        // A LIST in braces goes as a whole as it is asked first.
        ShellLines x = Check.with("{echo 1;echo 5|set a;echo 2}|add 0", "{echo 1;echo 6|set b;echo 2}");
        x.job(0);
        x.job(1);
        turn(x, 0, 1);
        C.due("VALUE at once", x.told(10), 5);
        turn(x, 1, 1);
        C.due("VALUE at once", x.told(11), 6);
        turn(x, 0, 2, ShellLines.NO);
        turn(x, 1, 2, ShellLines.NO);
    }

    private static void noTrap() {
        ShellLines x = Check.with("echo 1;fail 2", "echo 9");
        x.trap(1);
        x.job(0);
        turn(x, 0, 1, ShellLines.NO);
        C.due("STATUS of no RUN", x.told(1), 0);
    }
}
