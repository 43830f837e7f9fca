/** Promises 13 to 18: what would be; and that it changes nothing. */
public final class AskedTest {
    private static final Check C = new Check("AskedTest");
    private static final int MAX = Integer.MAX_VALUE;
    private static final int MIN = Integer.MIN_VALUE;

    public static void main(String[] args) {
        on();
        sees();
        fits();
        fitsWithTrap();
        alike();
        odds();
        means();
        changesNothing();
        C.end();
    }

    private static void on() {
        ShellLines x = Check.with("seq 3|add $a;fail 4", "echo 9", "ok");
        x.value(0, 5);
        C.due("on(0, 0)", x.on(0, 0), 3);
        C.due("on(0, 1)", x.on(0, 1), 4);
        C.due("on(0, 2)", x.on(0, 2), 3);
        C.due("on(0, 3)", x.on(0, 3), 58);
        C.due("on(0, 40)", x.on(0, 40), 6);
        C.due("on(0, 42)", x.on(0, 42), 8);
        C.due("on(0, 43)", x.on(0, 43), ShellLines.NO);
        C.due("on(2, 40)", x.on(2, 40), ShellLines.NO);
        x.trap(1);
        C.due("on(0, 0) with THE TRAP", x.on(0, 0), 4);
        C.due("on(0, 43) with THE TRAP", x.on(0, 43), 9);
        C.due("on(0, 1) with THE TRAP", x.on(0, 1), 4);
        C.due("on(0, 3) with THE TRAP", x.on(0, 3), 57);
        int[] none = {-1, 4, 10, 20, 30, 39, 100, MAX, MIN};
        for (int what : none) {
            C.due("on(0, " + what + ")", x.on(0, what), ShellLines.NO);
        }
        C.due("on(3, 0)", x.on(3, 0), ShellLines.NO);
        C.due("on(-1, 0)", x.on(-1, 0), ShellLines.NO);
        ShellLines y = Check.with("seq 99");
        C.due("the last of OUT", y.on(0, 99), 60);
    }

    private static void sees() {
        ShellLines x = new ShellLines();
        C.due("see(60, 0)", x.see(60, 0), -2);
        C.due("see(-2, 0)", x.see(-2, 0), -2);
        C.due("see(MAX, 0)", x.see(MAX, 0), -2);
        for (int i = 1; i <= 5; i++) {
            C.due("see " + i, x.see(i == 5 ? 59 : 0, i), i);
        }
        C.due("a sixth", x.see(0, 0), -4);
        C.due("a sixth at no place", x.see(60, 0), -2);
        C.due("SEEN", x.count(2), 5);
        C.due("see(-1, 9)", x.see(-1, 9), 0);
        C.due("SEEN", x.count(2), 0);
        C.due("see(-1, 9)", x.see(-1, 9), 0);
        C.due("see(0, 0)", x.see(0, 0), 1);
    }

    private static void fits() {
        ShellLines x = Check.with("seq 20|keep $a|take 3", "seq $a", "echo $b|mul $b", "echo $a|mul 0;echo $a|add $c", "ok");
        C.due("all, with nothing SEEN", x.fits(0, 0, 0), 20);
        C.due("the least, with nothing SEEN", x.fits(4, 0, 1), 0);
        x.see(0, 6);
        C.due("fits(0, 0, 0)", x.fits(0, 0, 0), 1);
        C.due("fits(0, 0, 1)", x.fits(0, 0, 1), 6);
        C.due("fits of nothing written", x.fits(4, 0, 0), 0);
        C.due("the least of none", x.fits(4, 0, 1), -5);
        x.see(1, 12);
        x.see(2, 18);
        C.due("fits(0, 0, 0)", x.fits(0, 0, 0), 1);
        x.see(3, 24);
        C.due("beyond OUT", x.fits(0, 0, 0), 0);
        x.see(-1, 0);
        x.see(3, 4);
        C.due("seq of 4 or more", x.fits(1, 0, 0), 16);
        C.due("the least of those", x.fits(1, 0, 1), 4);
        x.see(18, 19);
        C.due("19 alone", x.fits(1, 0, 0), 1);
        C.due("19 alone", x.fits(1, 0, 1), 19);
        x.see(19, 20);
        C.due("not 20", x.fits(1, 0, 0), 0);
        x.see(-1, 0);
        x.see(0, 25);
        C.due("squares", x.fits(2, 1, 1), 5);
        C.due("another NAME", x.fits(2, 0, 1), -5);
        x.see(-1, 0);
        x.see(1, 9);
        x.see(1, 9);
        x.value(2, 4);
        C.due("with another VALUE", x.fits(3, 0, 1), 5);
        x.see(1, 8);
        C.due("two at one place", x.fits(3, 0, 0), 0);
        C.due("fits(5, 0, 0)", x.fits(5, 0, 0), -1);
        C.due("fits(-1, 0, 0)", x.fits(-1, 0, 0), -1);
        C.due("fits(0, 5, 0)", x.fits(0, 5, 0), -1);
        C.due("fits(0, -1, 0)", x.fits(0, -1, 0), -1);
        C.due("fits(0, 0, 2)", x.fits(0, 0, 2), -1);
        C.due("fits(0, 0, -1)", x.fits(0, 0, -1), -1);
    }

    private static void fitsWithTrap() {
        ShellLines x = Check.with("fail $a", "echo $a", "echo 7|set a");
        x.trap(1);
        x.see(0, 3);
        C.due("by THE TRAP", x.fits(0, 0, 0), 1);
        C.due("by THE TRAP", x.fits(0, 0, 1), 3);
        x.see(-1, 0);
        x.see(0, 0);
        C.due("no TRAP by 0", x.fits(0, 0, 0), 0);
        // Each number is tried from the same VALUES.
        ShellLines y = Check.with("echo $b;echo $a|set b");
        y.see(0, 0);
        C.due("from the same VALUES", y.fits(0, 0, 0), 20);
    }

    private static void alike() {
        ShellLines x = Check.with("seq 5|sum|mul 3", "seq 5|mul 3|sum", "echo 45;fail 2", "echo 45 45", "fail 2", "echo $a|set b", "ok", "echo 46");
        C.due("alike", x.alike(0, 1), 1);
        C.due("other STATUS", x.alike(1, 2), 0);
        C.due("more of OUT", x.alike(1, 3), 0);
        C.due("less of OUT", x.alike(3, 1), 0);
        C.due("other OUT", x.alike(1, 7), 0);
        C.due("itself", x.alike(2, 2), 1);
        C.due("other STATUS alone", x.alike(4, 6), 0);
        C.due("VALUES do not count", x.alike(5, 6), 1);
        C.due("alike(8, 0)", x.alike(8, 0), -1);
        C.due("alike(0, 8)", x.alike(0, 8), -1);
        C.due("alike(-1, 0)", x.alike(-1, 0), -1);
        C.due("alike(0, -1)", x.alike(0, -1), -1);
        x.trap(2);
        C.due("by THE TRAP", x.alike(2, 4), 0);
        // Each goes from what is now, and not from what the other left.
        ShellLines y = Check.with("echo $a;echo 4|set a", "echo $a", "echo 0");
        C.due("from now", y.alike(0, 1), 1);
        C.due("from now", y.alike(0, 2), 1);
    }

    private static void odds(ShellLines x, int line, int name, long above, long below) {
        C.due("odds(" + line + ", " + name + ", 0)", x.odds(line, name, 0), above);
        C.due("odds(" + line + ", " + name + ", 1)", x.odds(line, name, 1), below);
    }

    private static void odds() {
        ShellLines x = Check.with("fail $a", "ok", "fail 3", "echo $a|mod 2|set b;echo 1|mod $b", "seq $a|keep 4|set c",
                "seq $a|keep 6|set c/ok&seq $a|keep 6|set c", "mod $e", "fail $a");
        odds(x, 0, 0, 1, 10);
        odds(x, 0, 1, 1, 1);
        odds(x, 1, 0, 1, 1);
        odds(x, 2, 0, 0, 1);
        odds(x, 3, 0, 1, 2);
        odds(x, 4, 0, 3, 5);
        odds(x, 5, 0, 2, 5);
        odds(x, 6, 4, 9, 10);
        odds(x, 6, 3, 0, 1);
        x.trap(1);
        odds(x, 0, 0, 1, 10);
        C.due("odds(8, 0, 0)", x.odds(8, 0, 0), ShellLines.NO);
        C.due("odds(-1, 0, 0)", x.odds(-1, 0, 0), ShellLines.NO);
        C.due("odds(0, 5, 0)", x.odds(0, 5, 0), ShellLines.NO);
        C.due("odds(0, -1, 0)", x.odds(0, -1, 0), ShellLines.NO);
        C.due("odds(0, 0, 2)", x.odds(0, 0, 2), ShellLines.NO);
        C.due("odds(0, 0, -1)", x.odds(0, 0, -1), ShellLines.NO);
    }

    private static void mean(ShellLines x, int line, long above, long below) {
        C.due("mean(" + line + ", 0)", x.mean(line, 0), above);
        C.due("mean(" + line + ", 1)", x.mean(line, 1), below);
    }

    private static void means() {
        ShellLines x = Check.with("echo 1 2", "echo 1 2 3", "echo $a 1", "ok", "echo 0 0 0", "echo $a $a $a", "seq 99", "echo $b $b;fail 1");
        mean(x, 0, 3, 2);
        mean(x, 1, 2, 1);
        mean(x, 3, ShellLines.NO, ShellLines.NO);
        mean(x, 4, 0, 1);
        mean(x, 6, 61, 2);
        x.value(0, -4);
        mean(x, 2, -3, 2);
        x.value(0, MAX);
        mean(x, 5, MAX, 1);
        x.value(0, MIN);
        mean(x, 5, MIN, 1);
        x.value(1, MAX);
        mean(x, 7, MAX, 1);
        x.trap(1);
        mean(x, 7, (2L * MAX + 6) / 5, 1);
        x.trap(4);
        mean(x, 7, 2L * MAX, 5);
        C.due("mean(8, 0)", x.mean(8, 0), ShellLines.NO);
        C.due("mean(-1, 0)", x.mean(-1, 0), ShellLines.NO);
        C.due("mean(0, 2)", x.mean(0, 2), ShellLines.NO);
        C.due("mean(0, -1)", x.mean(0, -1), ShellLines.NO);
    }

    private static void changesNothing() {
        ShellLines x = Check.with("echo 5|set a;fail 1", "echo 6|set b", "seq 4|add 1", "seq 9");
        x.trap(1);
        x.define(0, 3);
        x.job(3);
        x.turn(0);
        x.see(0, 3);
        x.book(0, 0);
        x.plan(0, 0);
        x.run(2);
        for (int line = 0; line < 4; line++) {
            x.on(line, 0);
            x.fits(line, 0, 0);
            x.alike(line, 0);
            x.odds(line, 0, 0);
            x.mean(line, 0);
        }
        x.ends(0);
        x.looked();
        C.due("a", x.told(10), 0);
        C.due("b", x.told(11), 0);
        C.due("OUT", x.told(0), 4);
        C.due("OUT", x.told(40), 2);
        C.due("STATUS", x.told(1), 0);
        C.due("READS", x.told(2), 4);
        C.due("THE TRAP", x.told(30), 1);
        C.due("f", x.told(20), 3);
        C.due("the JOB", x.turn(0), 2);
        C.due("SEEN", x.count(2), 1);
        C.due("the PLAN", x.count(3), 1);
        C.due("the BOOK", x.count(4), 1);
    }
}
