/** Promises 19 to 22, 24 to 26, and what the Terms tell of the PLAN, the BOOK and THE IMAGE: each sentence by its edges. */
public final class EdgesOfPlansTest {
    private static final int MAX = Integer.MAX_VALUE;
    private static final int MIN = Integer.MIN_VALUE;
    private static final long NO = ShellLines.NO;
    private static final Check C = new Check("EdgesOfPlansTest");

    public static void main(String[] args) {
        planned();
        plan();
        planNone();
        planIsFull();
        ends();
        endsOfRunsAnew();
        endsNone();
        booked();
        book();
        bookNone();
        lookedRows();
        looked();
        imageOfValues();
        imageOfTheLatestRun();
        imageOfNoRun();
        imageOfToldByHand();
        whatStays();
        image();
        undo();
        undoOfNone();
        count();
        C.end();
    }

    private static void planned() {
        C.says("A PLAN told by hand: what goes (0 a RUN of LINE n, 1 VALUE of NAME n is 0, 2 FUNCTION n has no LINE, 3 there is no TRAP; 10 rows at most):");
        ShellLines x = Check.with("echo $a|add 1|set a", "f 1/echo 5|set b", "fail 1", "echo 7|set c", "echo 8|set d");
        x.value(0, 3);
        x.define(0, 4);
        x.trap(3);
        x.plan(0, 0);
        C.due("0: a RUN", x.ends(0), 4);
        x.plan(1, 0);
        C.due("1: VALUE is 0", x.ends(0), 0);
        x.plan(0, 1);
        C.due("f has a LINE", x.ends(3), 8);
        C.due("f fails", x.ends(1), 0);
        x.plan(-1, 0);
        x.plan(2, 0);
        x.plan(0, 1);
        C.due("2: f has none", x.ends(1), 5);
        C.due("2: f has none", x.ends(3), 0);
        x.plan(0, 2);
        C.due("there is a TRAP", x.ends(2), 7);
        x.plan(-1, 0);
        x.plan(3, 0);
        x.plan(0, 2);
        C.due("3: there is none", x.ends(2), 0);
        C.due("f stays", x.told(20), 4);
        C.due("THE TRAP stays", x.told(30), 3);
        C.due("a stays", x.told(10), 3);
    }

    private static void plan() {
        C.says("A row comes to the PLAN: how many there are (what -1: it is empty then, 0, whatever the rest is).");
        ShellLines x = Check.with("echo $a|add 1|set a");
        C.due("of none", x.plan(-1, 0), 0);
        for (int i = 1; i <= 10; i++) {
            C.due("row " + i, x.plan(0, 0), i);
            C.due("ENDS", x.ends(0), i);
        }
        for (int n : new int[] {0, -1, 9, MAX, MIN}) {
            C.due("plan(-1, " + n + ")", x.plan(-1, n), 0);
            C.due("rows", x.count(3), 0);
            C.due("ENDS", x.ends(0), 0);
            C.due("the first again", x.plan(0, 0), 1);
        }
    }

    private static void planNone() {
        C.says("NONE: what (0 .. 3), line (by 0), name (by 1), function (by 2; by 3 n does not matter);");
        ShellLines x = Check.with("ok", "ok");
        for (int what : new int[] {-2, 4, 5, MAX, MIN}) {
            C.due("plan(" + what + ", 0)", x.plan(what, 0), -1);
        }
        for (int n : new int[] {-1, -2, 8, MAX, MIN}) {
            for (int what = 0; what < 3; what++) {
                C.due("plan(" + what + ", " + n + ")", x.plan(what, n), -1);
            }
        }
        C.due("a LINE behind the last", x.plan(0, 2), -1);
        C.due("a NAME behind the last", x.plan(1, 5), -1);
        C.due("a FUNCTION behind the last", x.plan(2, 3), -1);
        C.due("rows", x.count(3), 0);
        C.due("the last LINE", x.plan(0, 1), 1);
        C.due("the last NAME", x.plan(1, 4), 2);
        C.due("the last FUNCTION", x.plan(2, 2), 3);
        int rows = 3;
        for (int n : new int[] {-1, 5, 8, MAX, MIN}) {
            rows++;
            C.due("plan(3, " + n + ")", x.plan(3, n), rows);
        }
    }

    private static void planIsFull() {
        C.says("FULL: 10.");
        ShellLines x = Check.with("echo $a|add 1|set a");
        for (int i = 1; i <= 10; i++) {
            C.due("row " + i, x.plan(0, 0), i);
        }
        C.due("an eleventh", x.plan(0, 0), -4);
        C.due("an eleventh", x.plan(3, 0), -4);
        C.due("an eleventh of no LINE", x.plan(0, 1), -1);
        C.due("an eleventh of no kind", x.plan(4, 0), -1);
        C.due("rows", x.count(3), 10);
        C.due("ENDS", x.ends(0), 10);
        C.due("empty", x.plan(-1, 0), 0);
    }

    private static void ends() {
        C.says("ENDS: VALUES.");
        ShellLines x = Check.with("echo $a|add 1|set a;echo $a|set b", "echo $b|mul 2|set c", "{echo 4|set d}|set e/ok");
        long[] now = {MIN, MAX, -1, 1, 5};
        for (int name = 0; name < 5; name++) {
            x.value(name, (int) now[name]);
        }
        for (int name = 0; name < 5; name++) {
            C.due("ENDS of no PLAN", x.ends(name), now[name]);
        }
        x.plan(0, 0);
        x.plan(1, 3);
        x.plan(0, 1);
        x.plan(0, 2);
        x.plan(1, 0);
        long[] then = {0, MIN + 1, 2, 4, 5};
        for (int times = 0; times < 2; times++) {
            for (int name = 0; name < 5; name++) {
                C.due("ENDS", x.ends(name), then[name]);
                C.due("VALUE now", x.told(10 + name), now[name]);
            }
        }
    }

    private static void endsOfRunsAnew() {
        C.says("what goes (0 a RUN of LINE n,");
        // Each RUN has FUEL of its own, and THE TRAP of then.
        ShellLines x = Check.with("ok;ok;ok;ok;ok;ok;ok;ok;ok;ok", "g 1;g 1;g 1;g 1;g 1;ok;ok;ok;ok;echo $a|add 1|set a", "fail 1", "echo $a|add 5|set a");
        x.define(1, 0);
        for (int i = 1; i <= 10; i++) {
            x.plan(0, 1);
            C.due("ENDS of " + i, x.ends(0), i);
        }
        x.plan(-1, 0);
        x.trap(3);
        x.plan(0, 2);
        x.plan(0, 2);
        x.plan(3, 0);
        x.plan(0, 2);
        C.due("ENDS by THE TRAP", x.ends(0), 10);
        C.due("OUT of no RUN", x.told(0), 0);
    }

    private static void endsNone() {
        C.says("ENDS of a NAME. NO.");
        ShellLines x = Check.with("echo 4|set e");
        x.plan(0, 0);
        for (int name : new int[] {-1, 5, 6, MAX, MIN}) {
            C.due("ends(" + name + ")", x.ends(name), NO);
        }
        C.due("the first", x.ends(0), 0);
        C.due("the last", x.ends(4), 4);
    }

    private static void booked() {
        C.says("A BOOK told by hand: NAMES, VALUES (8 at most):");
        ShellLines x = new ShellLines();
        for (int i = 1; i <= 8; i++) {
            C.due("row " + i, x.book(i % 5, 0), i);
        }
        C.due("a ninth", x.book(0, 0), -4);
        C.due("all are so", x.looked(), -5);
        x.value(3, 1);
        C.due("the third row is of d", x.looked(), 2);
    }

    private static void book() {
        C.says("A row comes to the BOOK: how many there are (name -1: it is empty then, 0, whatever the rest is).");
        ShellLines x = new ShellLines();
        C.due("of none", x.book(-1, 0), 0);
        for (int v : new int[] {0, -1, 7, MAX, MIN}) {
            C.due("the first", x.book(0, 1), 1);
            C.due("the second", x.book(4, MIN), 2);
            C.due("LOOKED at", x.looked(), 0);
            C.due("book(-1, " + v + ")", x.book(-1, v), 0);
            C.due("rows", x.count(4), 0);
            C.due("LOOKED at", x.looked(), -5);
        }
    }

    private static void bookNone() {
        C.says("NONE; FULL: 8.");
        ShellLines x = new ShellLines();
        for (int name : new int[] {-2, 5, 6, MAX, MIN}) {
            C.due("book(" + name + ", 0)", x.book(name, 0), -1);
        }
        C.due("rows", x.count(4), 0);
        for (int i = 1; i <= 8; i++) {
            C.due("row " + i, x.book(4, 0), i);
        }
        C.due("a ninth", x.book(4, 1), -4);
        C.due("a ninth of no NAME", x.book(5, 1), -1);
        C.due("a ninth of no NAME", x.book(-2, 1), -1);
        C.due("rows", x.count(4), 8);
        C.due("all are so", x.looked(), -5);
    }

    private static void lookedRows() {
        C.says("LOOKED at: the number (from 0) of the first of these rows by which it is otherwise now (-5: none).");
        ShellLines x = Check.with("echo 9|set b");
        C.due("no rows", x.looked(), -5);
        for (int i = 0; i < 7; i++) {
            x.book(i % 5, 0);
        }
        x.book(1, 9);
        C.due("the last row", x.looked(), 7);
        x.run(0);
        C.due("two of b", x.looked(), 1);
        x.value(1, 0);
        x.value(0, MIN);
        C.due("the first row", x.looked(), 0);
        x.value(0, 0);
        x.book(-1, 0);
        x.book(4, MIN);
        x.book(3, MAX);
        C.due("the first row", x.looked(), 0);
        x.value(4, MIN);
        C.due("the second row", x.looked(), 1);
        x.value(3, MAX);
        C.due("none", x.looked(), -5);
    }

    private static void looked() {
        C.says("LOOKED at; -5.");
        ShellLines x = Check.with("echo 4|set a");
        C.due("no rows", x.looked(), -5);
        x.book(0, 4);
        C.due("the first", x.looked(), 0);
        x.on(0, 0);
        x.plan(0, 0);
        x.ends(0);
        C.due("now, not then", x.looked(), 0);
        x.run(0);
        C.due("none", x.looked(), -5);
    }

    private static void imageOfValues() {
        C.says("THE IMAGE: VALUES, FUNCTIONS, THE TRAP,");
        ShellLines x = Check.with("ok", "sum");
        for (int name = 0; name < 5; name++) {
            x.value(name, MIN + name);
        }
        x.define(0, 1);
        x.define(2, 0);
        x.trap(0);
        x.image();
        for (int times = 0; times < 2; times++) {
            for (int name = 0; name < 5; name++) {
                x.value(name, MAX);
            }
            x.define(0, -1);
            x.define(1, 1);
            x.define(2, 1);
            x.trap(times == 0 ? -1 : 1);
            x.undo();
            for (int name = 0; name < 5; name++) {
                C.due("VALUE of " + name, x.told(10 + name), MIN + name);
            }
            C.due("f", x.told(20), 1);
            C.due("g", x.told(21), -5);
            C.due("h", x.told(22), 0);
            C.due("THE TRAP", x.told(30), 0);
        }
        ShellLines y = Check.with("ok");
        y.image();
        y.trap(0);
        y.undo();
        C.due("no TRAP", y.told(30), -5);
    }

    private static void imageOfTheLatestRun() {
        C.says("OUT and STATUS of the latest RUN, READS,");
        ShellLines x = Check.with("seq 3|add 4;fail 6", "seq 60|add 1", "ok");
        x.run(0);
        x.image();
        for (int line = 0; line < 3; line++) {
            x.run(line);
            x.undo();
            C.due("OUT", Check.out(x).equals("5 6 7") ? 1 : 0, 1);
            C.due("behind OUT", x.told(43), NO);
            C.due("STATUS", x.told(1), 6);
            C.due("READS", x.told(2), 3);
        }
    }

    private static void imageOfNoRun() {
        C.says("OUT and STATUS of the latest RUN");
        ShellLines x = Check.with("seq 3|add 4;fail 6");
        x.image();
        x.run(0);
        x.undo();
        C.due("OUT", x.told(0), 0);
        C.due("OUT", x.told(40), NO);
        C.due("STATUS", x.told(1), 0);
        C.due("READS", x.told(2), 0);
        C.due("JUDGED", x.judge(0, 0), -5);
    }

    private static void imageOfToldByHand() {
        C.says("SEEN, the PLAN, the BOOK");
        ShellLines x = Check.with("echo $a 5", "echo 6|set b");
        x.see(0, 4);
        x.see(1, 5);
        x.plan(0, 1);
        x.plan(1, 0);
        x.book(0, 0);
        x.book(1, 6);
        x.book(2, 0);
        x.image();
        for (int times = 0; times < 2; times++) {
            x.see(-1, 0);
            x.see(1, 7);
            x.plan(-1, 0);
            x.plan(1, 1);
            x.book(-1, 0);
            x.book(0, 1);
            x.undo();
            C.due("SEEN", x.count(2), 2);
            C.due("SEEN", x.fits(0, 0, 1), 4);
            C.due("the PLAN", x.count(3), 2);
            C.due("the PLAN", x.ends(1), 6);
            C.due("the BOOK", x.count(4), 3);
            C.due("the BOOK", x.looked(), 1);
        }
        ShellLines y = new ShellLines();
        y.image();
        for (int i = 0; i < 8; i++) {
            y.see(0, 0);
            y.plan(3, 0);
            y.book(0, 0);
        }
        y.undo();
        C.due("none SEEN", y.count(2), 0);
        C.due("no PLAN", y.count(3), 0);
        C.due("no BOOK", y.count(4), 0);
    }

    private static void whatStays() {
        C.says("(LINES and JOBS stay).");
        ShellLines x = Check.with("seq 9", "echo $a");
        x.job(0);
        x.turn(0);
        x.image();
        x.turn(0);
        x.job(1);
        Check.line(x, "echo 5");
        Check.feed(x, "sum");
        x.tape(0, 2, 1);
        x.item(0, 0, 8);
        x.value(0, 6);
        C.due("undo", x.undo(), 3);
        C.due("LINES", x.count(0), 3);
        C.runs(x, 2, "5", 0, 0);
        C.due("JOBS", x.count(1), 2);
        C.turns(x, 0, 3);
        C.turns(x, 1, 0);
        C.due("bytes of THE TEXT", x.count(5), 3);
        C.due("the TAPE", x.read(0, 0), 8);
        x.stop(0);
        x.undo();
        C.due("JOBS", x.count(1), 1);
    }

    private static void image() {
        C.says("THE IMAGE is taken: how many LINES there are.");
        ShellLines x = new ShellLines();
        C.due("of no LINES", x.image(), 0);
        for (int line = 1; line <= 8; line++) {
            Check.line(x, "ok");
            x.value(0, line);
            C.due("of " + line, x.image(), line);
        }
        x.value(0, 99);
        C.due("the latest IMAGE", x.undo(), 8);
        C.due("the latest IMAGE", x.told(10), 8);
    }

    private static void undo() {
        C.says("All that it keeps is as THE IMAGE: how many LINES there are.");
        ShellLines x = new ShellLines();
        x.image();
        C.due("of no LINES", x.undo(), 0);
        for (int line = 1; line <= 8; line++) {
            Check.line(x, "ok");
            x.value(0, line);
            C.due("undo", x.undo(), line);
            C.due("VALUE", x.told(10), 0);
        }
        x.value(0, 5);
        x.image();
        C.due("of now", x.undo(), 8);
        C.due("VALUE", x.told(10), 5);
    }

    private static void undoOfNone() {
        C.says("STATE: there is none.");
        ShellLines x = Check.with("ok");
        x.value(0, 5);
        C.due("undo", x.undo(), -3);
        C.due("VALUE", x.told(10), 5);
        C.due("undo again", x.undo(), -3);
        C.due("image", x.image(), 1);
        C.due("undo", x.undo(), 1);
        C.due("of another object", new ShellLines().undo(), -3);
    }

    private static void count() {
        C.says("How many: 0 LINES, 1 JOBS, 2 SEEN, 3 of the PLAN, 4 of the BOOK, 5 bytes of THE TEXT. BAD.");
        ShellLines x = new ShellLines();
        int[] most = {8, 4, 5, 10, 8, 100};
        for (int what = 0; what < 6; what++) {
            C.due("count(" + what + ") at first", x.count(what), 0);
        }
        for (int i = 1; i <= 8; i++) {
            Check.line(x, "ok");
            C.due("LINES", x.count(0), i);
        }
        for (int i = 1; i <= 10; i++) {
            x.job(0);
            C.due("JOBS", x.count(1), Math.min(i, 4));
            x.see(0, 0);
            C.due("SEEN", x.count(2), Math.min(i, 5));
            x.plan(3, 0);
            C.due("of the PLAN", x.count(3), i);
            x.book(0, 0);
            C.due("of the BOOK", x.count(4), Math.min(i, 8));
        }
        for (int i = 1; i <= 101; i++) {
            x.feed('o');
            C.due("bytes", x.count(5), Math.min(i, 100));
        }
        for (int what = 0; what < 6; what++) {
            C.due("count(" + what + ") of all", x.count(what), most[what]);
        }
        for (int what : new int[] {-1, 6, 7, MAX, MIN}) {
            C.due("count(" + what + ")", x.count(what), -2);
        }
    }
}
