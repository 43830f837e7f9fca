/** Promises 23 and 27 to 30, and what the Terms tell of TAPES, JUDGED and the host's refusals: each sentence by its edges. */
public final class EdgesOfTapesTest {
    private static final int MAX = Integer.MAX_VALUE;
    private static final int MIN = Integer.MIN_VALUE;
    private static final long NO = ShellLines.NO;
    private static final Check C = new Check("EdgesOfTapesTest");

    public static void main(String[] args) {
        nothingAtFirst();
        judged();
        judgedByItsPlace();
        judgedOfNoOut();
        judgedBeyondTheRow();
        judge();
        refusals();
        tapeBecomes();
        tapeHoldsNothing();
        tapeRefuses();
        itemOfBytesAndShorts();
        itemOfIntsAndLongs();
        itemOfBooleans();
        itemRefuses();
        read();
        shift();
        shiftOverItself();
        shiftOfSorts();
        shiftRefuses();
        shiftPlaces();
        C.end();
    }

    private static void nothingAtFirst() {
        C.says("TAPES 0 .. 5 hold nothing (at first), or a row of 0 bytes, 1 shorts, 2 ints, 3 longs, 4 booleans (items 0, 1).");
        ShellLines x = new ShellLines();
        for (int tape = 0; tape <= 5; tape++) {
            C.due("read(" + tape + ", 0)", x.read(tape, 0), NO);
            C.due("item(" + tape + ", 0, 0)", x.item(tape, 0, 0), -11);
        }
        long[] held = {-1, 0x7fff, 0x7fffffff, 0x7fffffffffffL, 1};
        long[] put = {0xff, 0x17fff, 0x17fffffffL, 0x7fffffffffffL, 0x7fffL};
        for (int sort = 0; sort <= 4; sort++) {
            C.due("a row of sort " + sort, x.tape(sort, sort, 2), 1);
            x.item(sort, 1, put[sort]);
            C.due("its items", x.read(sort, 1), held[sort]);
        }
        C.due("the last TAPE", x.tape(5, 0, 60), 1);
        C.due("no TAPE behind it", x.tape(6, 0, 60), -1);
        C.due("no TAPE ahead of 0", x.tape(-1, 0, 60), -1);
    }

    /** A row of ints with these items. */
    private static void row(ShellLines x, int tape, long... items) {
        x.tape(tape, 2, items.length);
        for (int i = 0; i < items.length; i++) {
            x.item(tape, i, items[i]);
        }
    }

    private static void judged() {
        C.says("OUT of the latest RUN told by a row of ints, from a place on, one by one, is JUDGED: the first that is otherwise (counted from 0 from that place on);");
        ShellLines x = Check.with("echo 5 6 7", "echo $a $b", "echo 0", "echo 8");
        x.run(0);
        row(x, 0, 5, 6, 7);
        C.due("none", x.judge(0, 0), -5);
        row(x, 0, 4, 6, 7);
        C.due("the first", x.judge(0, 0), 0);
        row(x, 0, 5, 4, 4);
        C.due("the second", x.judge(0, 0), 1);
        row(x, 0, 5, 6, 4);
        C.due("the third", x.judge(0, 0), 2);
        row(x, 0, 5, 6, 7, 4);
        C.due("what stands behind does not matter", x.judge(0, 0), -5);
        x.value(0, MIN);
        x.value(1, MAX);
        x.run(1);
        row(x, 5, MIN, MAX);
        C.due("the least and the greatest int", x.judge(5, 0), -5);
        C.due("of the latest RUN", x.judge(0, 0), 0);
        // Neither a JOB nor what is asked is a RUN.
        x.job(3);
        x.turn(0);
        x.on(3, 0);
        C.due("of the latest RUN", x.judge(5, 0), -5);
        x.run(2);
        x.tape(5, 2, 1);
        C.due("a 0", x.judge(5, 0), -5);
    }

    private static void judgedByItsPlace() {
        C.says("from a place on, one by one,");
        ShellLines x = Check.with("echo 5 6", "seq 60", "seq 99");
        x.run(0);
        row(x, 0, 5, 5, 6, 5, 6);
        C.due("from 0", x.judge(0, 0), 1);
        C.due("from 1", x.judge(0, 1), -5);
        C.due("from 2", x.judge(0, 2), 0);
        C.due("from 3", x.judge(0, 3), -5);
        x.run(1);
        x.tape(1, 2, 60);
        for (int i = 0; i < 60; i++) {
            x.item(1, i, i + 1);
        }
        C.due("60 of them", x.judge(1, 0), -5);
        x.item(1, 59, 61);
        C.due("the last of 60", x.judge(1, 0), 59);
        x.item(1, 59, 60);
        x.run(2);
        C.due("60 of 99", x.judge(1, 0), -5);
        C.due("from 1", x.judge(1, 1), 0);
    }

    private static void judgedOfNoOut() {
        C.says("-5: none, or OUT is empty (wherever the place is, also if the TAPE holds nothing);");
        ShellLines x = Check.with("ok", "fail 3");
        row(x, 0, 5, 6);
        x.tape(1, 2, 0);
        for (int times = 0; times < 2; times++) {
            for (int place : new int[] {0, 1, 2, 3, -1, MAX, MIN}) {
                C.due("at " + place, x.judge(0, place), -5);
                C.due("in a row of none at " + place, x.judge(1, place), -5);
                C.due("in nothing at " + place, x.judge(2, place), -5);
            }
            x.run(times);
        }
    }

    private static void judgedBeyondTheRow() {
        C.says("100 and how many were looked at, if the row ends ahead of that (or the place is below 0, or the TAPE holds nothing).");
        ShellLines x = Check.with("echo 5 6 7", "seq 60");
        x.run(0);
        row(x, 0, 5, 6);
        C.due("two looked at", x.judge(0, 0), 102);
        row(x, 0, 9, 9, 5);
        C.due("one looked at", x.judge(0, 2), 101);
        C.due("behind the last", x.judge(0, 3), 100);
        C.due("far behind the last", x.judge(0, MAX), 100);
        C.due("otherwise ahead of the end", x.judge(0, 1), 0);
        C.due("below 0", x.judge(0, -1), 100);
        C.due("far below 0", x.judge(0, MIN), 100);
        for (int place : new int[] {0, 1, -1, MAX, MIN}) {
            C.due("in nothing at " + place, x.judge(5, place), 100);
        }
        x.tape(1, 2, 0);
        C.due("in a row of none", x.judge(1, 0), 100);
        x.tape(0, -1, 0);
        C.due("in nothing again", x.judge(0, 0), 100);
        x.run(1);
        x.tape(2, 2, 60);
        for (int i = 1; i < 60; i++) {
            x.item(2, i, i);
        }
        C.due("59 looked at", x.judge(2, 1), 159);
    }

    private static void judge() {
        C.says("JUDGED from place i of a TAPE on. NONE: tape; CAST: it is no row of ints.");
        ShellLines x = Check.with("echo 5", "ok");
        for (int times = 0; times < 2; times++) {
            for (int tape : new int[] {-1, 6, 7, MAX, MIN}) {
                C.due("judge(" + tape + ", 0)", x.judge(tape, 0), -1);
                C.due("judge(" + tape + ", -1)", x.judge(tape, -1), -1);
            }
            for (int sort : new int[] {0, 1, 3, 4}) {
                x.tape(sort, sort, 3);
                for (int place : new int[] {0, -1, 3, MAX, MIN}) {
                    C.due("a row of sort " + sort, x.judge(sort, place), -12);
                }
                x.tape(sort, sort, 0);
                C.due("a row of none of sort " + sort, x.judge(sort, 0), -12);
            }
            x.run(0);
        }
        // Also if OUT is empty.
        x.run(1);
        C.due("a row of bytes", x.judge(0, 0), -12);
        C.due("the last TAPE", x.judge(5, 0), -5);
    }

    private static void refusals() {
        C.says("The host's refusals: NOTHING (-11): nothing is there; CAST (-12): another sort; PLACE (-13): no such place; SIZE (-14): a size below 0.");
        ShellLines x = new ShellLines();
        x.tape(0, 0, 3);
        x.tape(1, 1, 3);
        C.due("NOTHING", x.item(2, 0, 0), -11);
        C.due("CAST", x.shift(0, 0, 1, 0, 1), -12);
        C.due("PLACE", x.item(0, 3, 0), -13);
        C.due("SIZE", x.tape(0, 0, -1), -14);
    }

    private static void tapeBecomes() {
        C.says("A TAPE becomes a row of n (0 .. 60) of a sort, all 0,");
        ShellLines x = new ShellLines();
        for (int sort = 0; sort <= 4; sort++) {
            for (int n : new int[] {0, 1, 59, 60}) {
                C.due("tape(0, " + sort + ", " + n + ")", x.tape(0, sort, n), 1);
                C.due("the first", x.read(0, 0), n == 0 ? NO : 0);
                C.due("the last", x.read(0, n - 1), n == 0 ? NO : 0);
                C.due("behind the last", x.read(0, n), NO);
                x.item(0, 0, 1);
                x.item(0, n - 1, 1);
            }
        }
        C.due("another TAPE", x.read(1, 0), NO);
        // Shorter and longer again: what it held is gone.
        x.tape(2, 3, 60);
        for (int i = 0; i < 60; i++) {
            x.item(2, i, -7);
        }
        x.tape(2, 3, 5);
        x.tape(2, 3, 60);
        for (int i = 0; i < 60; i++) {
            C.due("item " + i, x.read(2, i), 0);
        }
    }

    private static void tapeHoldsNothing() {
        C.says("or holds nothing (sort -1: n does not matter): 1.");
        ShellLines x = new ShellLines();
        for (int n : new int[] {0, 1, 60, 61, -1, MAX, MIN}) {
            x.tape(0, 2, 5);
            C.due("tape(0, -1, " + n + ")", x.tape(0, -1, n), 1);
            C.due("no item", x.read(0, 0), NO);
            C.due("nothing", x.item(0, 0, 1), -11);
            C.due("nothing to nothing", x.tape(0, -1, n), 1);
        }
    }

    private static void tapeRefuses() {
        C.says("NONE: tape; BAD: sort, n above 60; SIZE.");
        ShellLines x = new ShellLines();
        x.tape(0, 3, 2);
        x.item(0, 1, 8);
        for (int tape : new int[] {-1, 6, 7, MAX, MIN}) {
            C.due("tape(" + tape + ", 0, 1)", x.tape(tape, 0, 1), -1);
            C.due("tape(" + tape + ", -1, 1)", x.tape(tape, -1, 1), -1);
            C.due("tape(" + tape + ", 5, -1)", x.tape(tape, 5, -1), -1);
        }
        for (int sort : new int[] {-2, 5, 6, MAX, MIN}) {
            for (int n : new int[] {0, 60, 61, -1, MIN}) {
                C.due("tape(0, " + sort + ", " + n + ")", x.tape(0, sort, n), -2);
            }
        }
        for (int sort = 0; sort <= 4; sort++) {
            C.due("61 of sort " + sort, x.tape(0, sort, 61), -2);
            C.due("MAX of sort " + sort, x.tape(0, sort, MAX), -2);
            C.due("-1 of sort " + sort, x.tape(0, sort, -1), -14);
            C.due("MIN of sort " + sort, x.tape(0, sort, MIN), -14);
        }
        C.due("it stays", x.read(0, 1), 8);
        C.due("of 2", x.read(0, 2), NO);
    }

    private static void held(ShellLines x, int tape, long v, long want) {
        C.due("item of " + v, x.item(tape, 1, v), 1);
        C.due("read of " + v, x.read(tape, 1), want);
        C.due("beside it", x.read(tape, 0), 0);
        C.due("beside it", x.read(tape, 2), 0);
    }

    private static void itemOfBytesAndShorts() {
        C.says("Item i of a TAPE becomes v (its lowest bits, as many as an item has;");
        ShellLines x = new ShellLines();
        x.tape(0, 0, 3);
        long[] bytes = {0, 0, 1, 1, -1, -1, 127, 127, 128, -128, -128, -128, -129, 127, 255, -1, 256, 0, Long.MAX_VALUE, -1, Long.MIN_VALUE, 0};
        for (int i = 0; i < bytes.length; i += 2) {
            held(x, 0, bytes[i], bytes[i + 1]);
        }
        x.tape(1, 1, 3);
        long[] shorts = {0, 0, -1, -1, 128, 128, 32767, 32767, 32768, -32768, -32768, -32768, -32769, 32767, 65535, -1, 65536, 0,
            Long.MAX_VALUE, -1, Long.MIN_VALUE, 0};
        for (int i = 0; i < shorts.length; i += 2) {
            held(x, 1, shorts[i], shorts[i + 1]);
        }
    }

    private static void itemOfIntsAndLongs() {
        C.says("its lowest bits, as many as an item has;");
        ShellLines x = new ShellLines();
        x.tape(2, 2, 3);
        long[] ints = {0, 0, -1, -1, 65536, 65536, MAX, MAX, MAX + 1L, MIN, MIN, MIN, MIN - 1L, MAX, 0xffffffffL, -1, 1L << 32, 0,
            Long.MAX_VALUE, -1, Long.MIN_VALUE, 0};
        for (int i = 0; i < ints.length; i += 2) {
            held(x, 2, ints[i], ints[i + 1]);
        }
        x.tape(3, 3, 3);
        for (long v : new long[] {0, -1, MAX + 1L, MIN - 1L, 1L << 32, Long.MAX_VALUE, Long.MIN_VALUE + 1, Long.MIN_VALUE}) {
            held(x, 3, v, v);
        }
    }

    private static void itemOfBooleans() {
        C.says("booleans: whether v is not 0): 1.");
        ShellLines x = new ShellLines();
        x.tape(4, 4, 3);
        held(x, 4, 0, 0);
        for (long v : new long[] {1, -1, 2, 256, 65536, 1L << 32, 1L << 40, Long.MAX_VALUE, Long.MIN_VALUE}) {
            held(x, 4, v, 1);
        }
        held(x, 4, 0, 0);
    }

    private static void itemRefuses() {
        C.says("NONE; NOTHING; PLACE.");
        ShellLines x = new ShellLines();
        for (int i : new int[] {0, -1, 60, MAX, MIN}) {
            C.due("item(6, " + i + ", 0)", x.item(6, i, 0), -1);
            C.due("item(-1, " + i + ", 0)", x.item(-1, i, 0), -1);
            C.due("item(5, " + i + ", 0)", x.item(5, i, 0), -11);
        }
        C.due("item(MAX, 0, 0)", x.item(MAX, 0, 0), -1);
        C.due("item(MIN, 0, 0)", x.item(MIN, 0, 0), -1);
        for (int n : new int[] {0, 1, 60}) {
            x.tape(5, 2, n);
            for (int i : new int[] {-1, n, n + 1, MAX, MIN}) {
                C.due("item(5, " + i + ", 4) of " + n, x.item(5, i, 4), -13);
            }
            C.due("the first", x.item(5, 0, 4), n == 0 ? -13 : 1);
            C.due("the last", x.item(5, n - 1, 4), n == 0 ? -13 : 1);
        }
    }

    private static void read() {
        C.says("Item i of a TAPE. NO: no such TAPE, nothing there, no such place.");
        ShellLines x = new ShellLines();
        for (int tape : new int[] {-1, 6, 7, MAX, MIN}) {
            C.due("read(" + tape + ", 0)", x.read(tape, 0), NO);
        }
        C.due("nothing there", x.read(5, 0), NO);
        for (int n : new int[] {0, 1, 60}) {
            x.tape(5, 1, n);
            for (int i : new int[] {-1, n, n + 1, MAX, MIN}) {
                C.due("read(5, " + i + ") of " + n, x.read(5, i), NO);
            }
            x.item(5, n - 1, 9);
            C.due("the last", x.read(5, n - 1), n == 0 ? NO : 9);
        }
    }

    private static void holds(ShellLines x, int tape, long... want) {
        for (int i = 0; i < want.length; i++) {
            C.due("read(" + tape + ", " + i + ")", x.read(tape, i), want[i]);
        }
        C.due("read(" + tape + ", " + want.length + ")", x.read(tape, want.length), NO);
    }

    private static void shift() {
        C.says("n items of a TAPE from i on come to another one (or the same) from j on,");
        ShellLines x = new ShellLines();
        row(x, 0, 1, 2, 3, 4, 5);
        row(x, 5, 6, 7, 8);
        C.due("none", x.shift(0, 0, 5, 0, 0), 0);
        holds(x, 5, 6, 7, 8);
        C.due("one", x.shift(0, 4, 5, 2, 1), 1);
        holds(x, 5, 6, 7, 5);
        C.due("two", x.shift(0, 1, 5, 0, 2), 2);
        holds(x, 5, 2, 3, 5);
        C.due("all", x.shift(5, 0, 0, 2, 3), 3);
        holds(x, 0, 1, 2, 2, 3, 5);
        holds(x, 5, 2, 3, 5);
        C.due("none at both ends", x.shift(0, 5, 5, 3, 0), 0);
        row(x, 1);
        C.due("none of none", x.shift(1, 0, 1, 0, 0), 0);
        x.tape(2, 2, 60);
        x.tape(3, 2, 60);
        x.item(2, 0, 7);
        x.item(2, 59, 8);
        C.due("60", x.shift(2, 0, 3, 0, 60), 60);
        C.due("the first", x.read(3, 0), 7);
        C.due("the last", x.read(3, 59), 8);
    }

    private static void shiftOverItself() {
        C.says("as they all were before: n.");
        ShellLines x = new ShellLines();
        row(x, 0, 1, 2, 3, 4, 5);
        C.due("forth", x.shift(0, 0, 0, 1, 4), 4);
        holds(x, 0, 1, 1, 2, 3, 4);
        row(x, 0, 1, 2, 3, 4, 5);
        C.due("back", x.shift(0, 1, 0, 0, 4), 4);
        holds(x, 0, 2, 3, 4, 5, 5);
        row(x, 0, 1, 2, 3, 4, 5);
        C.due("two forth", x.shift(0, 0, 0, 2, 3), 3);
        holds(x, 0, 1, 2, 1, 2, 3);
        C.due("to where they are", x.shift(0, 0, 0, 0, 5), 5);
        holds(x, 0, 1, 2, 1, 2, 3);
    }

    private static void shiftOfSorts() {
        C.says("n items of a TAPE from i on come to another one");
        ShellLines x = new ShellLines();
        long[] items = {-128, -32768, MIN, Long.MIN_VALUE, 1};
        for (int sort = 0; sort <= 4; sort++) {
            x.tape(0, sort, 2);
            x.tape(1, sort, 2);
            x.item(0, 1, items[sort]);
            C.due("of sort " + sort, x.shift(0, 1, 1, 0, 1), 1);
            holds(x, 1, items[sort], 0);
        }
    }

    private static void shiftRefuses() {
        C.says("NONE: tapes; NOTHING; CAST: of unlike sorts;");
        ShellLines x = new ShellLines();
        row(x, 0, 1, 2);
        for (int tape : new int[] {-1, 6, 7, MAX, MIN}) {
            C.due("shift(" + tape + ", 0, 0, 0, 1)", x.shift(tape, 0, 0, 0, 1), -1);
            C.due("shift(0, 0, " + tape + ", 0, 1)", x.shift(0, 0, tape, 0, 1), -1);
            C.due("shift(1, 0, " + tape + ", 0, -1)", x.shift(1, 0, tape, 0, -1), -1);
        }
        C.due("nothing to nothing", x.shift(1, 0, 2, 0, 0), -11);
        C.due("nothing to a row", x.shift(1, 0, 0, 0, 0), -11);
        C.due("a row to nothing", x.shift(0, 0, 1, 0, 0), -11);
        C.due("nothing, and no place", x.shift(0, 0, 1, 0, -1), -11);
        C.due("nothing to itself", x.shift(1, 0, 1, 0, 0), -11);
        for (int sort : new int[] {0, 1, 3, 4}) {
            x.tape(1, sort, 2);
            C.due("ints to sort " + sort, x.shift(0, 0, 1, 0, 1), -12);
            C.due("sort " + sort + " to ints", x.shift(1, 0, 0, 0, 1), -12);
            C.due("none of them", x.shift(0, 0, 1, 0, 0), -12);
            C.due("at no place", x.shift(0, -1, 1, 0, 1), -12);
            C.due("too many", x.shift(0, 0, 1, 0, 3), -12);
        }
        holds(x, 0, 1, 2);
    }

    private static void shiftPlaces() {
        C.says("PLACE: n, i or j is below 0, or beyond either's end.");
        ShellLines x = new ShellLines();
        row(x, 0, 1, 2, 3, 4, 5);
        row(x, 1, 6, 7, 8);
        // i, j, n
        int[][] places = {{0, 0, -1}, {-1, 0, 1}, {0, -1, 1}, {-1, 0, 0}, {0, -1, 0}, {-1, -1, -1}, {5, 0, 1}, {4, 0, 2}, {3, 0, 3}, {0, 0, 4},
            {0, 3, 1}, {0, 2, 2}, {0, 1, 3}, {6, 0, 0}, {0, 4, 0}, {0, 0, 5}, {0, 0, MAX}, {1, 1, MAX}, {MAX, 0, 1}, {0, MAX, 1},
            {MAX, MAX, MAX}, {MAX, MAX, 0}, {MIN, 0, 0}, {0, MIN, 0}, {0, 0, MIN}, {MIN, MIN, MIN}, {MAX, 0, 0}, {0, MAX, 0}, {4, 2, MIN}};
        for (int[] p : places) {
            C.due("shift(0, " + p[0] + ", 1, " + p[1] + ", " + p[2] + ")", x.shift(0, p[0], 1, p[1], p[2]), -13);
            C.due("shift(1, " + p[1] + ", 0, " + p[0] + ", " + p[2] + ")", x.shift(1, p[1], 0, p[0], p[2]), -13);
        }
        C.due("beyond its own end", x.shift(0, 2, 0, 0, 4), -13);
        C.due("beyond its own end", x.shift(0, 0, 0, 2, 4), -13);
        holds(x, 0, 1, 2, 3, 4, 5);
        holds(x, 1, 6, 7, 8);
        C.due("the last that go", x.shift(0, 2, 1, 0, 3), 3);
        holds(x, 1, 3, 4, 5);
    }
}
