/** Promises 13 to 18, and what the Terms tell of what would be: each sentence by its edges. */
public final class EdgesOfAskedTest {
    private static final int MAX = Integer.MAX_VALUE;
    private static final int MIN = Integer.MIN_VALUE;
    private static final long NO = ShellLines.NO;
    private static final Check C = new Check("EdgesOfAskedTest");

    public static void main(String[] args) {
        changesNothing();
        onARun();
        on();
        onNone();
        seenPlaces();
        seenFive();
        seeNone();
        fits();
        fitsNumbers();
        fitsPlaces();
        fitsNone();
        alike();
        alikeNone();
        odds();
        oddsNone();
        mean();
        meanOfNone();
        meanOfParts();
        C.end();
    }

    private static void changesNothing() {
        C.says("All that follows is asked, and changes nothing.");
        ShellLines x = Check.with("seq 9|add 1|set a;echo 5;fail 1", "echo 6|set b;echo 8", "seq 4|add 1", "seq 3");
        x.trap(1);
        x.define(0, 3);
        x.job(3);
        x.turn(0);
        x.see(0, 3);
        x.book(0, 0);
        x.plan(0, 0);
        x.run(2);
        for (int line = 0; line < 4; line++) {
            x.on(line, 0);
            x.on(line, 40);
            x.fits(line, 0, 0);
            x.alike(line, 0);
            x.odds(line, 0, 0);
            x.mean(line, 0);
        }
        x.ends(0);
        x.looked();
        for (int name = 0; name < 5; name++) {
            C.due("VALUE of " + name, x.told(10 + name), 0);
        }
        C.due("OUT", Check.out(x).equals("2 3 4 5") ? 1 : 0, 1);
        C.due("STATUS", x.told(1), 0);
        C.due("READS", x.told(2), 4);
        C.due("THE TRAP", x.told(30), 1);
        C.due("f", x.told(20), 3);
        C.due("SEEN", x.count(2), 1);
        C.due("the PLAN", x.count(3), 1);
        C.due("the BOOK", x.count(4), 1);
        C.turns(x, 0, 2, 3, NO);
    }

    private static void onARun() {
        C.says("ON a LINE, were it RUN now: OUT; STATUS; READS; how much FUEL is left.");
        ShellLines x = Check.with("seq $a|add $a;f 2;fail 4", "echo 9|add $p", "ok;ok", "ok");
        C.due("OUT", x.on(0, 0), 0);
        C.due("STATUS", x.on(0, 1), 4);
        C.due("READS", x.on(0, 2), 0);
        C.due("FUEL", x.on(0, 3), 57);
        x.value(0, 2);
        x.define(0, 1);
        C.due("OUT", x.on(0, 0), 3);
        C.due("READS", x.on(0, 2), 3);
        C.due("FUEL", x.on(0, 3), 56);
        C.due("what f wrote", x.on(0, 42), 11);
        x.trap(2);
        C.due("FUEL by THE TRAP", x.on(0, 3), 54);
        C.due("STATUS by THE TRAP", x.on(0, 1), 4);
        // What JOBS, and RUNS, take of FUEL is theirs.
        x.job(0);
        x.turn(0);
        x.run(0);
        C.due("FUEL beside a JOB", x.on(3, 3), 59);
        C.due("FUEL, asked again", x.on(3, 3), 59);
    }

    private static void on() {
        C.says("ON a LINE: what 0 how many OUT has, 1 STATUS, 2 READS, 3 how much FUEL is left, 40 and k OUT's number at k.");
        ShellLines x = Check.with("seq 99|add 1;fail $a", "ok", "echo $a");
        x.value(0, MIN);
        C.due("OUT", x.on(0, 0), 60);
        C.due("STATUS", x.on(0, 1), MIN);
        C.due("READS", x.on(0, 2), 99);
        C.due("FUEL", x.on(0, 3), 58);
        C.due("the first", x.on(0, 40), 2);
        C.due("the last", x.on(0, 99), 61);
        C.due("of one", x.on(2, 40), MIN);
        for (int what = 0; what < 3; what++) {
            C.due("on(1, " + what + ")", x.on(1, what), 0);
        }
        ShellLines y = Check.with("ok;ok;ok;ok;ok;ok;ok;ok;ok;ok", "g 1;g 1;g 1;g 1;g 1;ok;ok;ok;ok", "g 1;g 1;g 1;g 1;g 1;ok;ok;ok;ok;ok", "g 1;g 1;g 1;g 1;g 1;g 1");
        y.define(1, 0);
        C.due("FUEL 1", y.on(1, 3), 1);
        C.due("FUEL 0", y.on(2, 3), 0);
        C.due("FUEL 0", y.on(3, 3), 0);
    }

    private static void onNone() {
        C.says("40 and k OUT's number at k. NO.");
        ShellLines x = Check.with("seq 60", "echo 7", "ok");
        for (int what : new int[] {MIN, -1, 4, 5, 10, 14, 20, 30, 39, 100, MAX - 40, MAX}) {
            C.due("on(0, " + what + ")", x.on(0, what), NO);
        }
        C.due("behind the last", x.on(1, 41), NO);
        C.due("of no OUT", x.on(2, 40), NO);
        x.run(0);
        C.due("of the latest RUN's OUT", x.on(1, 41), NO);
        for (int line : new int[] {-1, 3, 8, MAX, MIN}) {
            C.due("on(" + line + ", 0)", x.on(line, 0), NO);
            C.due("on(" + line + ", 3)", x.on(line, 3), NO);
        }
    }

    private static void seenPlaces() {
        C.says("SEEN told by hand: a place k (0 .. 59), a number (5 rows at most).");
        ShellLines x = Check.with("seq 60");
        C.due("the first place", x.see(0, 1), 1);
        C.due("the last place", x.see(59, 60), 2);
        C.due("both are so", x.fits(0, 0, 0), 20);
        C.due("the last place again", x.see(59, 61), 3);
        C.due("both can't be", x.fits(0, 0, 0), 0);
        ShellLines y = Check.with("echo $a $b");
        y.see(0, MIN);
        y.see(1, MAX);
        y.value(1, MAX);
        C.due("no number 0 .. 19", y.fits(0, 0, 0), 0);
        y.value(0, MIN);
        C.due("any number for c", y.fits(0, 2, 0), 20);
    }

    private static void seenFive() {
        C.says("What is SEEN comes: how many there are (place -1: none then, 0, whatever the rest is).");
        ShellLines x = Check.with("seq 9");
        C.due("none of none", x.see(-1, 0), 0);
        for (int i = 1; i <= 5; i++) {
            C.due("see " + i, x.see(i - 1, i), i);
        }
        C.due("all five are so", x.fits(0, 0, 0), 20);
        C.due("none then", x.see(-1, MIN), 0);
        C.due("SEEN", x.count(2), 0);
        C.due("the first again", x.see(8, 8), 1);
        C.due("it alone counts", x.fits(0, 0, 0), 0);
        C.due("none then", x.see(-1, MAX), 0);
        C.due("nothing is SEEN", x.fits(0, 0, 0), 20);
    }

    private static void seeNone() {
        C.says("BAD: place; FULL: 5.");
        ShellLines x = Check.with("seq 9");
        for (int place : new int[] {-2, 60, 61, MAX, MIN}) {
            C.due("see(" + place + ", 0)", x.see(place, 0), -2);
        }
        C.due("SEEN", x.count(2), 0);
        for (int i = 1; i <= 5; i++) {
            x.see(0, 1);
        }
        C.due("a sixth", x.see(0, 2), -4);
        C.due("a sixth at the last place", x.see(59, 2), -4);
        C.due("a sixth at no place", x.see(60, 2), -2);
        C.due("a sixth at no place", x.see(-2, 2), -2);
        C.due("SEEN", x.count(2), 5);
        C.due("the five stay", x.fits(0, 0, 0), 20);
        C.due("none then", x.see(-1, 2), 0);
    }

    private static void fits() {
        C.says("FITS of a LINE and a NAME: how many numbers 0 .. 19 there are by which, were that its VALUE, were the LINE RUN, "
                + "OUT would have these numbers at these places; the least (-5: none).");
        ShellLines x = Check.with("echo $a $a", "echo $e|mod 5", "seq $c", "echo 7|set a;echo $a", "fail $b", "echo $b;echo 3|set b", "echo $b $d");
        C.due("nothing SEEN fits all", x.fits(0, 0, 0), 20);
        C.due("the least of all", x.fits(0, 0, 1), 0);
        x.see(0, 3);
        C.due("one", x.fits(0, 0, 0), 1);
        C.due("the least", x.fits(0, 0, 1), 3);
        C.due("four", x.fits(1, 4, 0), 4);
        C.due("the least", x.fits(1, 4, 1), 3);
        C.due("none", x.fits(2, 2, 0), 0);
        C.due("the least of none", x.fits(2, 2, 1), -5);
        C.due("of a NAME that doesn't matter", x.fits(0, 1, 0), 0);
        // The RUN may set the NAME itself; the next number is tried as if it had not.
        C.due("set by the RUN", x.fits(3, 0, 0), 0);
        C.due("set behind", x.fits(5, 1, 0), 1);
        ShellLines y = Check.with("echo $b;echo $a|set b");
        y.see(0, 0);
        C.due("another's VALUE set by each RUN", y.fits(0, 0, 0), 20);
        x.value(3, 7);
        x.see(1, 7);
        C.due("with another's VALUE", x.fits(6, 1, 1), 3);
        x.trap(6);
        C.due("by THE TRAP", x.fits(4, 1, 1), 3);
        C.due("VALUES stay", x.told(11), 0);
    }

    private static void fitsNumbers() {
        C.says("how many numbers 0 .. 19 there are");
        ShellLines x = Check.with("echo $a", "seq $a|add 1");
        x.see(0, 0);
        C.due("0", x.fits(0, 0, 1), 0);
        x.see(-1, 0);
        x.see(0, 19);
        C.due("19", x.fits(0, 0, 1), 19);
        x.see(-1, 0);
        x.see(0, 20);
        C.due("20", x.fits(0, 0, 0), 0);
        x.see(-1, 0);
        x.see(0, -1);
        C.due("-1", x.fits(0, 0, 0), 0);
        x.see(-1, 0);
        x.see(0, 2);
        C.due("1 to 19", x.fits(1, 0, 0), 19);
        C.due("the least of them", x.fits(1, 0, 1), 1);
        // What its VALUE is now does not matter.
        x.value(0, 500);
        C.due("1 to 19", x.fits(1, 0, 0), 19);
    }

    private static void fitsPlaces() {
        C.says("OUT would have these numbers at these places;");
        ShellLines x = Check.with("seq $a", "seq 99|add $a", "ok");
        x.see(18, 19);
        C.due("the place is there by 19 alone", x.fits(0, 0, 0), 1);
        x.see(-1, 0);
        x.see(19, 20);
        C.due("the place is never there", x.fits(0, 0, 0), 0);
        x.see(-1, 0);
        x.see(59, 60);
        C.due("the last place", x.fits(1, 0, 1), 0);
        x.see(0, 2);
        C.due("not both", x.fits(1, 0, 0), 0);
        x.see(-1, 0);
        x.see(0, 0);
        C.due("no OUT", x.fits(2, 0, 0), 0);
    }

    private static void fitsNone() {
        C.says("FITS: what 0 how many, 1 the least; -5. NONE.");
        ShellLines x = Check.with("ok", "echo $e");
        for (int line : new int[] {-1, 2, 8, MAX, MIN}) {
            C.due("fits(" + line + ", 0, 0)", x.fits(line, 0, 0), -1);
        }
        for (int name : new int[] {-1, 5, 6, MAX, MIN}) {
            C.due("fits(0, " + name + ", 0)", x.fits(0, name, 0), -1);
        }
        for (int what : new int[] {-1, 2, 3, MAX, MIN}) {
            C.due("fits(0, 0, " + what + ")", x.fits(0, 0, what), -1);
        }
        x.see(0, 4);
        C.due("the last of all", x.fits(1, 4, 1), 4);
        C.due("none", x.fits(0, 0, 1), -5);
        C.due("none", x.fits(0, 0, 0), 0);
    }

    private static void alike() {
        C.says("ALIKE of two LINES: whether, were the one RUN, or the other, OUT and STATUS would be the same.");
        ShellLines x = Check.with("echo 1 2", "seq 2|add 0;ok", "seq 3", "echo 1 2;fail 1", "fail 1", "ok;echo 7|set a", "echo 1 3", "fail 2");
        C.due("alike, READS and FUEL otherwise", x.alike(0, 1), 1);
        C.due("one and the same", x.alike(3, 3), 1);
        C.due("OUT ends early", x.alike(0, 2), 0);
        C.due("OUT goes on", x.alike(2, 0), 0);
        C.due("the last number otherwise", x.alike(0, 6), 0);
        C.due("the first number otherwise", Check.with("echo 1 2", "echo 0 2").alike(0, 1), 0);
        C.due("STATUS otherwise", x.alike(0, 3), 0);
        C.due("STATUS otherwise, OUT empty", x.alike(4, 7), 0);
        C.due("OUT empty", x.alike(4, 5), 0);
        x.trap(0);
        C.due("by THE TRAP", x.alike(4, 7), 0);
        C.due("by THE TRAP", x.alike(3, 4), 0);
        // Neither goes from what the other left.
        ShellLines y = Check.with("echo $a;echo 4|set a", "echo $a", "seq 60", "seq 61", "{seq 99}", "ok", "seq 0|sum|set b");
        C.due("VALUES left", y.alike(0, 1), 1);
        C.due("VALUES left", y.alike(0, 0), 1);
        C.due("what is left out", y.alike(2, 3), 1);
        C.due("what is left out", y.alike(3, 4), 1);
        C.due("VALUES alone are otherwise", y.alike(5, 6), 1);
    }

    private static void alikeNone() {
        C.says("ALIKE. NONE.");
        ShellLines x = Check.with("ok", "sum|ok");
        for (int line : new int[] {-1, 2, 8, MAX, MIN}) {
            C.due("alike(" + line + ", 0)", x.alike(line, 0), -1);
            C.due("alike(0, " + line + ")", x.alike(0, line), -1);
            C.due("alike(" + line + ", " + line + ")", x.alike(line, line), -1);
        }
        C.due("the first and the last", x.alike(0, 1), 1);
    }

    private static void odds(ShellLines x, int line, int name, long above, long below) {
        C.due("odds(" + line + ", " + name + ", 0)", x.odds(line, name, 0), above);
        C.due("odds(" + line + ", " + name + ", 1)", x.odds(line, name, 1), below);
    }

    private static void odds() {
        C.says("ODDS of a LINE and a NAME, its VALUE being one of 0 .. 9, each alike likely: how likely STATUS is 0: a fraction in lowest terms.");
        ShellLines x = Check.with("seq $a|keep 5|set b", "seq $a|keep 9|set b", "seq $a|keep 10|set b", "seq $a|keep 8|set b", "ok", "fail 1",
                "seq $a|keep 2|set b");
        odds(x, 4, 0, 1, 1);
        odds(x, 5, 0, 0, 1);
        // 5 .. 9; 9 alone; 10 is none of them; 8 and 9; 2 .. 9.
        odds(x, 0, 0, 1, 2);
        odds(x, 1, 0, 1, 10);
        odds(x, 2, 0, 0, 1);
        odds(x, 3, 0, 1, 5);
        odds(x, 6, 0, 4, 5);
        odds(x, 6, 4, 0, 1);
        x.value(0, 9);
        odds(x, 1, 0, 1, 10);
        odds(x, 1, 2, 1, 1);
        ShellLines y = Check.with("fail $e", "mod $d", "echo $a|add 1|set a;echo 1|mod $b", "ok", "echo 1");
        odds(y, 0, 4, 1, 10);
        odds(y, 1, 3, 9, 10);
        odds(y, 2, 1, 9, 10);
        // THE TRAP does not mend STATUS.
        y.trap(3);
        odds(y, 0, 4, 1, 10);
        y.trap(4);
        odds(y, 0, 4, 1, 10);
        odds(y, 0, 0, 1, 1);
        C.due("VALUE stays", y.told(14), 0);
    }

    private static void oddsNone() {
        C.says("ODDS; part 0 above, 1 below the line. NO: line, name, part.");
        ShellLines x = Check.with("ok", "fail $e");
        for (int part = 0; part < 2; part++) {
            for (int line : new int[] {-1, 2, 8, MAX, MIN}) {
                C.due("odds(" + line + ", 0, " + part + ")", x.odds(line, 0, part), NO);
            }
            for (int name : new int[] {-1, 5, 6, MAX, MIN}) {
                C.due("odds(0, " + name + ", " + part + ")", x.odds(0, name, part), NO);
            }
        }
        for (int part : new int[] {-1, 2, 3, MAX, MIN}) {
            C.due("odds(0, 0, " + part + ")", x.odds(0, 0, part), NO);
        }
        odds(x, 1, 4, 1, 10);
    }

    private static void mean(ShellLines x, int line, long above, long below) {
        C.due("mean(" + line + ", 0)", x.mean(line, 0), above);
        C.due("mean(" + line + ", 1)", x.mean(line, 1), below);
    }

    private static void mean() {
        C.says("MEAN of a LINE: all of OUT, together, by how many there are: a fraction in lowest terms (may be below 0; below the line it is above 0;");
        ShellLines x = Check.with("echo 7", "echo 1 2", "echo 1 2 3", "echo $a $a $a $a", "echo $a 0 0 0", "seq 60", "seq 99", "echo $b 0 0;echo 0 0 0");
        mean(x, 0, 7, 1);
        mean(x, 1, 3, 2);
        mean(x, 2, 2, 1);
        mean(x, 4, 0, 1);
        mean(x, 5, 61, 2);
        mean(x, 6, 61, 2);
        x.value(0, -1);
        mean(x, 3, -1, 1);
        mean(x, 4, -1, 4);
        x.value(0, -6);
        mean(x, 4, -3, 2);
        // They do not wrap around.
        x.value(0, MAX);
        mean(x, 3, MAX, 1);
        mean(x, 4, MAX, 4);
        x.value(0, MIN);
        mean(x, 3, MIN, 1);
        mean(x, 4, MIN / 4, 1);
        x.value(1, 4);
        mean(x, 7, 2, 3);
        x.value(1, -9);
        mean(x, 7, -3, 2);
        ShellLines y = Check.with("echo $a $a|add 1;fail 1", "echo $b", "echo $b $b");
        y.value(0, MAX - 1);
        y.value(1, MAX);
        mean(y, 0, MAX, 1);
        y.trap(1);
        mean(y, 0, MAX, 1);
        y.trap(2);
        y.value(1, MAX - 1);
        mean(y, 0, 2L * MAX - 1, 2);
    }

    private static void meanOfNone() {
        C.says("NO: there are none).");
        ShellLines x = Check.with("ok", "echo 0", "seq $a", "fail 2", "echo 4");
        C.due("above", x.mean(0, 0), NO);
        C.due("below", x.mean(0, 1), NO);
        mean(x, 1, 0, 1);
        mean(x, 2, NO, NO);
        x.value(0, 1);
        mean(x, 2, 1, 1);
        mean(x, 3, NO, NO);
        x.trap(4);
        mean(x, 3, 4, 1);
    }

    private static void meanOfParts() {
        C.says("MEAN; part likewise. NO.");
        ShellLines x = Check.with("echo 1", "echo 4 5");
        for (int line : new int[] {-1, 2, 8, MAX, MIN}) {
            mean(x, line, NO, NO);
        }
        for (int part : new int[] {-1, 2, 3, MAX, MIN}) {
            C.due("mean(0, " + part + ")", x.mean(0, part), NO);
        }
        mean(x, 1, 9, 2);
    }
}
