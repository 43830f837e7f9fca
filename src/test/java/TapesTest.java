/** Promises 23 to 30: judging, THE IMAGE, counts, TAPES. */
public final class TapesTest {
    private static final Check C = new Check("TapesTest");
    private static final int MAX = Integer.MAX_VALUE;
    private static final int MIN = Integer.MIN_VALUE;

    public static void main(String[] args) {
        judges();
        images();
        imageKeeps();
        imageIsACopy();
        counts();
        tapes();
        items();
        reads();
        shifts();
        shiftsOverItself();
        C.end();
    }

    private static void judges() {
        ShellLines x = Check.with("echo 5 6 7", "ok");
        C.due("judge(6, 0)", x.judge(6, 0), -1);
        C.due("judge(-1, 0)", x.judge(-1, 0), -1);
        C.due("empty OUT, no TAPE", x.judge(0, 0), -5);
        C.due("empty OUT, place below 0", x.judge(5, -7), -5);
        x.tape(1, 3, 5);
        C.due("a row of longs", x.judge(1, 0), -12);
        x.run(0);
        C.due("a row of longs", x.judge(1, 0), -12);
        C.due("no TAPE", x.judge(0, 0), 100);
        x.tape(0, 2, 5);
        C.due("place below 0", x.judge(0, -1), 100);
        C.due("place MIN", x.judge(0, MIN), 100);
        C.due("place at the end", x.judge(0, 5), 100);
        C.due("place MAX", x.judge(0, MAX), 100);
        C.due("the first is otherwise", x.judge(0, 0), 0);
        x.item(0, 1, 5);
        x.item(0, 2, 6);
        C.due("the third is otherwise", x.judge(0, 1), 2);
        x.item(0, 3, 7);
        C.due("none is otherwise", x.judge(0, 1), -5);
        x.item(0, 4, 5);
        C.due("the row ends ahead", x.judge(0, 4), 101);
        x.tape(0, 2, 2);
        x.item(0, 0, 5);
        x.item(0, 1, 6);
        C.due("the row ends ahead", x.judge(0, 0), 102);
        x.item(0, 1, 7);
        C.due("otherwise ahead of the end", x.judge(0, 0), 1);
        x.tape(0, 2, 0);
        C.due("a row of none", x.judge(0, 0), 100);
        x.run(1);
        C.due("empty OUT", x.judge(0, 0), -5);
        C.due("empty OUT, a place far off", x.judge(0, MAX), -5);
        for (int sort = 0; sort < 5; sort++) {
            x.tape(2, sort, 3);
            C.due("sort " + sort, x.judge(2, 0), sort == 2 ? -5 : -12);
        }
    }

    private static void images() {
        ShellLines x = Check.with("echo 4|set a;echo 1;fail 6", "ok");
        C.due("undo of no image", x.undo(), -3);
        C.due("image", x.image(), 2);
        x.run(0);
        C.due("undo", x.undo(), 2);
        C.due("a", x.told(10), 0);
        C.due("OUT", x.told(0), 0);
        C.due("STATUS", x.told(1), 0);
        Check.line(x, "echo 3");
        x.run(0);
        C.due("undo again", x.undo(), 3);
        C.due("a", x.told(10), 0);
        x.run(0);
        C.due("image", x.image(), 3);
        x.run(1);
        x.value(0, 9);
        C.due("undo", x.undo(), 3);
        C.due("a", x.told(10), 4);
        C.due("OUT", x.told(40), 1);
        C.due("STATUS", x.told(1), 6);
    }

    private static void imageKeeps() {
        ShellLines x = Check.with("seq 2|add 3", "fail 7", "echo 1");
        x.value(0, 1);
        x.value(4, 5);
        x.define(0, 1);
        x.trap(2);
        x.run(0);
        x.see(0, 4);
        x.see(1, 5);
        x.plan(1, 0);
        x.book(0, 1);
        x.job(0);
        x.tape(0, 2, 1);
        Check.feed(x, "o");
        x.image();
        x.value(0, 2);
        x.value(4, 6);
        x.define(0, -1);
        x.define(1, 1);
        x.trap(-1);
        x.run(1);
        x.see(2, 6);
        x.plan(-1, 0);
        x.book(4, 4);
        x.turn(0);
        x.job(1);
        x.item(0, 0, 8);
        Check.feed(x, "k");
        C.due("undo", x.undo(), 3);
        C.due("a", x.told(10), 1);
        C.due("e", x.told(14), 5);
        C.due("f", x.told(20), 1);
        C.due("g", x.told(21), -5);
        C.due("THE TRAP", x.told(30), 2);
        C.due("OUT", x.told(0), 2);
        C.due("OUT", x.told(41), 5);
        C.due("STATUS", x.told(1), 0);
        C.due("READS", x.told(2), 2);
        C.due("SEEN", x.count(2), 2);
        C.due("what was SEEN", x.fits(0, 0, 0), 20);
        C.due("the PLAN", x.count(3), 1);
        C.due("ENDS", x.ends(0), 0);
        C.due("the BOOK", x.count(4), 1);
        C.due("LOOKED at", x.looked(), -5);
        // JOBS, TAPES and THE TEXT stay.
        C.due("JOBS", x.count(1), 2);
        C.due("the JOB goes on", x.turn(0), 5);
        C.due("the TAPE", x.read(0, 0), 8);
        C.due("THE TEXT", x.count(5), 2);
    }

    private static void imageIsACopy() {
        ShellLines x = Check.with("echo 4 5", "echo 6 7 8", "echo $a", "echo 3|set b");
        x.run(0);
        x.see(0, 4);
        x.plan(0, 3);
        x.book(0, 0);
        x.image();
        x.run(1);
        x.see(-1, 0);
        x.see(0, 9);
        x.see(0, 9);
        x.plan(-1, 0);
        x.plan(1, 1);
        x.book(-1, 0);
        x.book(0, 2);
        for (int times = 0; times < 2; times++) {
            x.undo();
            C.due("OUT", x.told(40), 4);
            C.due("OUT", x.told(41), 5);
            C.due("OUT", x.told(42), ShellLines.NO);
            C.due("SEEN", x.fits(2, 0, 1), 4);
            C.due("the PLAN", x.ends(1), 3);
            C.due("the BOOK", x.looked(), -5);
            x.run(1);
            x.see(-1, 0);
            x.plan(-1, 0);
            x.book(-1, 0);
            x.value(0, 1);
            x.book(0, 2);
        }
    }

    private static void counts() {
        ShellLines x = Check.with("ok", "ok", "ok", "ok", "ok", "ok", "seq 9");
        x.job(6);
        x.job(6);
        x.job(6);
        x.see(1, 1);
        x.see(1, 1);
        x.plan(3, 0);
        x.plan(3, 0);
        x.plan(3, 0);
        x.plan(3, 0);
        x.book(0, 0);
        Check.feed(x, "abcde");
        long[] want = {7, 3, 2, 4, 1, 5};
        for (int what = 0; what < want.length; what++) {
            C.due("count(" + what + ")", x.count(what), want[what]);
        }
        C.due("count(6)", x.count(6), -2);
        C.due("count(-1)", x.count(-1), -2);
    }

    private static void tapes() {
        ShellLines x = new ShellLines();
        C.due("tape(-1, 0, 1)", x.tape(-1, 0, 1), -1);
        C.due("tape(6, 9, 99)", x.tape(6, 9, 99), -1);
        C.due("tape(0, 5, 1)", x.tape(0, 5, 1), -2);
        C.due("tape(0, -2, 1)", x.tape(0, -2, 1), -2);
        C.due("tape(0, 0, 61)", x.tape(0, 0, 61), -2);
        C.due("tape(0, 5, -1)", x.tape(0, 5, -1), -2);
        C.due("tape(0, 0, -1)", x.tape(0, 0, -1), -14);
        C.due("tape(0, 4, MIN)", x.tape(0, 4, MIN), -14);
        C.due("tape(0, 0, 60)", x.tape(0, 0, 60), 1);
        C.due("the last item", x.read(0, 59), 0);
        x.item(0, 3, 7);
        C.due("a bad one", x.tape(0, 0, 61), -2);
        C.due("it stays", x.read(0, 3), 7);
        C.due("again", x.tape(0, 1, 5), 1);
        C.due("all 0", x.read(0, 3), 0);
        x.item(0, 0, 3);
        x.item(0, 4, 3);
        C.due("again", x.tape(0, 1, 5), 1);
        C.due("the first is 0", x.read(0, 0), 0);
        C.due("the last is 0", x.read(0, 4), 0);
        C.due("of 5 alone", x.read(0, 5), ShellLines.NO);
        C.due("tape(0, 4, 0)", x.tape(0, 4, 0), 1);
        C.due("of none", x.read(0, 0), ShellLines.NO);
        C.due("of none", x.item(0, 0, 1), -13);
        C.due("tape(0, -1, -5)", x.tape(0, -1, -5), 1);
        C.due("holds nothing", x.item(0, 0, 1), -11);
        C.due("tape(5, -1, 99)", x.tape(5, -1, 99), 1);
    }

    private static void items() {
        ShellLines x = new ShellLines();
        C.due("item(6, 0, 0)", x.item(6, 0, 0), -1);
        C.due("item(-1, 0, 0)", x.item(-1, 0, 0), -1);
        C.due("item(0, 0, 0)", x.item(0, 0, 0), -11);
        C.due("item(0, -1, 0)", x.item(0, -1, 0), -11);
        long v = 0x123456789abcdef0L;
        long[] want = {(byte) v, (short) v, (int) v, v, 1};
        for (int sort = 0; sort < 5; sort++) {
            x.tape(sort, sort, 4);
            C.due("item of sort " + sort, x.item(sort, 2, v), 1);
            C.due("read of sort " + sort, x.read(sort, 2), want[sort]);
            x.item(sort, 3, -1);
            C.due("-1 of sort " + sort, x.read(sort, 3), sort == 4 ? 1 : -1);
            x.item(sort, 3, 0);
            C.due("0 of sort " + sort, x.read(sort, 3), 0);
            C.due("others stay", x.read(sort, 1), 0);
            C.due("item behind", x.item(sort, 4, 1), -13);
            C.due("item below", x.item(sort, -1, 1), -13);
        }
        x.item(0, 0, 128);
        C.due("a byte", x.read(0, 0), -128);
        x.item(0, 0, 256);
        C.due("a byte", x.read(0, 0), 0);
        x.item(1, 0, 70000);
        C.due("a short", x.read(1, 0), 4464);
        x.item(2, 0, 1L << 31);
        C.due("an int", x.read(2, 0), MIN);
        x.item(4, 0, 256);
        C.due("a boolean", x.read(4, 0), 1);
        x.item(4, 0, 1L << 40);
        C.due("a boolean", x.read(4, 0), 1);
        x.item(3, 0, Long.MAX_VALUE);
        C.due("a long", x.read(3, 0), Long.MAX_VALUE);
    }

    private static void reads() {
        ShellLines x = new ShellLines();
        C.due("read(0, 0)", x.read(0, 0), ShellLines.NO);
        C.due("read(6, 0)", x.read(6, 0), ShellLines.NO);
        C.due("read(-1, 0)", x.read(-1, 0), ShellLines.NO);
        x.tape(5, 0, 2);
        C.due("read(5, 1)", x.read(5, 1), 0);
        C.due("read(5, 2)", x.read(5, 2), ShellLines.NO);
        C.due("read(5, -1)", x.read(5, -1), ShellLines.NO);
        C.due("read(5, MAX)", x.read(5, MAX), ShellLines.NO);
    }

    private static void shifts() {
        ShellLines x = new ShellLines();
        C.due("shift(6, 0, 0, 0, 0)", x.shift(6, 0, 0, 0, 0), -1);
        C.due("shift(0, 0, 6, 0, 0)", x.shift(0, 0, 6, 0, 0), -1);
        C.due("shift(0, 0, -1, 0, 0)", x.shift(0, 0, -1, 0, 0), -1);
        C.due("from nothing", x.shift(0, 0, 1, 0, 0), -11);
        x.tape(0, 2, 5);
        C.due("to nothing", x.shift(0, 0, 1, 0, 0), -11);
        C.due("from nothing", x.shift(1, 0, 0, 0, -1), -11);
        x.tape(1, 3, 5);
        C.due("of unlike sorts", x.shift(0, 0, 1, 0, -1), -12);
        x.tape(1, 2, 4);
        for (int i = 0; i < 5; i++) {
            x.item(0, i, i + 1);
        }
        int[][] places = {{0, 0, -1}, {-1, 0, 1}, {0, -1, 1}, {0, 0, 5}, {1, 0, 5}, {0, 3, 2}, {5, 0, 1}, {0, 4, 1}, {6, 0, 0}, {0, 5, 0},
            {0, 0, MAX}, {MAX, 0, 1}, {0, MAX, 1}, {MAX, MAX, MAX}, {MIN, 0, 0}, {0, MIN, 0}, {0, 0, MIN}};
        for (int[] p : places) {
            C.due("shift(0, " + p[0] + ", 1, " + p[1] + ", " + p[2] + ")", x.shift(0, p[0], 1, p[1], p[2]), -13);
        }
        C.due("none at the ends", x.shift(0, 5, 1, 4, 0), 0);
        C.due("none", x.shift(0, 0, 1, 0, 0), 0);
        C.due("shift(0, 2, 1, 1, 3)", x.shift(0, 2, 1, 1, 3), 3);
        long[] want = {0, 3, 4, 5};
        for (int i = 0; i < 4; i++) {
            C.due("read(1, " + i + ")", x.read(1, i), want[i]);
        }
        C.due("the other stays", x.read(0, 2), 3);
    }

    private static void shiftsOverItself() {
        ShellLines x = new ShellLines();
        x.tape(0, 0, 5);
        for (int i = 0; i < 5; i++) {
            x.item(0, i, i + 1);
        }
        C.due("forth", x.shift(0, 0, 0, 1, 4), 4);
        long[] forth = {1, 1, 2, 3, 4};
        for (int i = 0; i < 5; i++) {
            C.due("read(0, " + i + ")", x.read(0, i), forth[i]);
        }
        C.due("back", x.shift(0, 1, 0, 0, 4), 4);
        long[] back = {1, 2, 3, 4, 4};
        for (int i = 0; i < 5; i++) {
            C.due("read(0, " + i + ")", x.read(0, i), back[i]);
        }
    }
}
