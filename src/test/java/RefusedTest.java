import java.util.ArrayList;
import java.util.List;

/**
 * "Answers": each refused call and each asked one, in each state that has another answer for it, with that answer;
 * and a twin on which it was not called answers all that comes behind alike.
 */
public final class RefusedTest {
    private static final int MAX = Integer.MAX_VALUE;
    private static final int MIN = Integer.MIN_VALUE;
    private static final long NO = ShellLines.NO;
    private static final int NONE = -1, BAD = -2, STATE = -3, FULL = -4, NOTHING = -11, CAST = -12, PLACE = -13, SIZE = -14;
    private static final int MOST_CALLS = 512;
    private static final Check C = new Check("RefusedTest");

    private interface Call {
        long on(ShellLines x);
    }

    /** How an object is made whose twin answers alike. */
    private enum State { NEW, HALF, WHOLE }

    private State state;
    private int calls;

    private RefusedTest(State state) {
        this.state = state;
    }

    public static void main(String[] args) {
        C.says("Answers: NONE (-1) no such number; BAD (-2) a number is not as told; STATE (-3) as told; FULL (-4); the first that a call's words name. "
                + "What is answered so changes nothing; what is asked changes nothing.");
        for (State state : State.values()) {
            RefusedTest test = new RefusedTest(state);
            test.lines();
            test.runs();
            test.wouldBe();
            test.plans();
            test.tapes();
        }
        new RefusedTest(State.NEW).whereNothingIs();
        new RefusedTest(State.HALF).whereSomeIs();
        new RefusedTest(State.WHOLE).whereAllIs();
        new RefusedTest(State.HALF).asked();
        new RefusedTest(State.WHOLE).asked();
        C.end();
    }

    /** NEW: nothing; HALF: some of all, but no IMAGE; WHOLE: all is full, and there is an IMAGE. */
    private ShellLines made() {
        ShellLines x = new ShellLines();
        calls = 0;
        if (state == State.NEW) {
            return x;
        }
        String[] texts = {"seq 4|add $a", "fail 2", "echo 7", "f 1", "ok", "seq 9|set b", "g 2", "sum"};
        int lines = state == State.HALF ? 4 : 8;
        for (int i = 0; i < lines; i++) {
            Check.line(x, texts[i]);
            calls += texts[i].length() + 1;
        }
        x.value(0, 3);
        x.value(4, -8);
        x.define(0, 2);
        x.trap(2);
        x.run(1);
        x.tape(0, 0, 3);
        x.item(0, 1, 5);
        x.tape(1, 1, 3);
        x.tape(2, 2, 2);
        x.item(2, 0, 7);
        x.tape(3, 3, 1);
        x.tape(4, 4, 2);
        x.job(0);
        x.job(3);
        x.turn(0);
        calls += 15;
        rows(x, state == State.HALF ? 1 : 10);
        if (state == State.WHOLE) {
            x.image();
            x.job(0);
            x.job(2);
            x.run(0);
            x.define(1, 0);
            x.value(2, 6);
            calls += 6;
        }
        String text = state == State.HALF ? "seq 3" : "ok;".repeat(33) + "o";
        Check.feed(x, text);
        calls += text.length();
        return x;
    }

    private void rows(ShellLines x, int most) {
        for (int i = 0; i < most; i++) {
            x.see(i < 5 ? 0 : -9, 4);
            x.plan(i % 2, 0);
            x.book(i < 8 ? i % 2 : -9, 3 * (1 - i % 2));
            calls += 3;
        }
    }

    /** All that an object answers from now on, as far as it can be asked; it is spent then. */
    private List<Long> rest(ShellLines x) {
        List<Long> rest = new ArrayList<>();
        told(x, rest);
        for (int tape = 0; tape < 6; tape++) {
            rest.add((long) x.judge(tape, 0));
            for (int i = 0; i < 4; i++) {
                rest.add(x.read(tape, i));
            }
        }
        for (int job = 0; job < 4; job++) {
            for (int turn = 0; turn < 5; turn++) {
                rest.add(x.turn(job));
            }
            rest.add((long) x.stop(job));
        }
        rest.add((long) x.line());
        rest.add((long) x.run(4));
        rest.add((long) x.undo());
        told(x, rest);
        calls += rest.size();
        C.due("calls on one object, that are " + calls, calls <= MOST_CALLS ? 1 : 0, 1);
        return rest;
    }

    private static void told(ShellLines x, List<Long> rest) {
        int[] whats = {0, 1, 2, 10, 11, 12, 13, 14, 20, 21, 22, 30, 40, 41, 42, 43, 44};
        for (int what : whats) {
            rest.add(x.told(what));
        }
        for (int what = 0; what < 6; what++) {
            rest.add((long) x.count(what));
        }
        for (int name = 0; name < 3; name++) {
            rest.add(x.ends(name));
        }
        rest.add((long) x.looked());
        rest.add((long) x.fits(0, 0, 0));
        rest.add((long) x.fits(2, 0, 0));
        rest.add(x.mean(0, 0));
    }

    private void due(String name, Call call, long want) {
        ShellLines called = made();
        C.due(name + " in state " + state, call.on(called), want);
        calls++;
        List<Long> behind = rest(called);
        C.due("what is behind " + name + " in state " + state, behind.equals(rest(made())) ? 1 : 0, 1);
    }

    // ---- refused in every state

    private void lines() {
        for (int n : new int[] {-1, 128, MAX, MIN}) {
            due("feed(" + n + ")", x -> x.feed(n), BAD);
        }
        for (int n : new int[] {-2, 8, MAX, MIN}) {
            due("of(" + n + ", 0)", x -> x.of(n, 0), NONE);
            due("define(0, " + n + ")", x -> x.define(0, n), NONE);
            due("define(3, " + n + ")", x -> x.define(3, n), NONE);
            due("trap(" + n + ")", x -> x.trap(n), NONE);
        }
        due("of(-1, 0)", x -> x.of(-1, 0), NONE);
        for (int n : new int[] {-1, 3, MAX, MIN}) {
            due("of(0, " + n + ")", x -> x.of(0, n), NONE);
            due("define(" + n + ", 0)", x -> x.define(n, 0), NONE);
            due("define(" + n + ", -1)", x -> x.define(n, -1), NONE);
        }
        for (int n : new int[] {-1, 5, MAX, MIN}) {
            due("value(" + n + ", 9)", x -> x.value(n, 9), NO);
        }
    }

    private void runs() {
        for (int n : new int[] {-1, 8, MAX, MIN}) {
            due("run(" + n + ")", x -> x.run(n), NONE);
            due("job(" + n + ")", x -> x.job(n), NONE);
        }
        for (int n : new int[] {-1, 4, MAX, MIN}) {
            due("turn(" + n + ")", x -> x.turn(n), NO);
            due("stop(" + n + ")", x -> x.stop(n), NONE);
        }
        for (int n : new int[] {-1, 3, 9, 15, 19, 23, 29, 31, 39, 100, MAX, MIN}) {
            due("told(" + n + ")", x -> x.told(n), NO);
        }
    }

    private void wouldBe() {
        for (int n : new int[] {-1, 8, MAX, MIN}) {
            due("on(" + n + ", 0)", x -> x.on(n, 0), NO);
            due("fits(" + n + ", 0, 0)", x -> x.fits(n, 0, 0), NONE);
            due("alike(" + n + ", 0)", x -> x.alike(n, 0), NONE);
            due("alike(0, " + n + ")", x -> x.alike(0, n), NONE);
            due("odds(" + n + ", 0, 0)", x -> x.odds(n, 0, 0), NO);
            due("mean(" + n + ", 0)", x -> x.mean(n, 0), NO);
        }
        for (int n : new int[] {-1, 5, MAX, MIN}) {
            due("fits(0, " + n + ", 0)", x -> x.fits(0, n, 0), NONE);
            due("odds(0, " + n + ", 0)", x -> x.odds(0, n, 0), NO);
        }
        for (int n : new int[] {-1, 2, MAX, MIN}) {
            due("fits(0, 0, " + n + ")", x -> x.fits(0, 0, n), NONE);
            due("odds(0, 0, " + n + ")", x -> x.odds(0, 0, n), NO);
            due("mean(0, " + n + ")", x -> x.mean(0, n), NO);
        }
        for (int n : new int[] {-1, 4, 39, 100, MAX, MIN}) {
            due("on(0, " + n + ")", x -> x.on(0, n), NO);
        }
        for (int n : new int[] {-2, 60, MAX, MIN}) {
            due("see(" + n + ", 4)", x -> x.see(n, 4), BAD);
        }
    }

    private void plans() {
        for (int n : new int[] {-2, 4, MAX, MIN}) {
            due("plan(" + n + ", 0)", x -> x.plan(n, 0), NONE);
        }
        for (int n : new int[] {-1, 8, MAX, MIN}) {
            due("plan(0, " + n + ")", x -> x.plan(0, n), NONE);
        }
        for (int n : new int[] {-1, 5, MAX, MIN}) {
            due("plan(1, " + n + ")", x -> x.plan(1, n), NONE);
            due("ends(" + n + ")", x -> x.ends(n), NO);
        }
        for (int n : new int[] {-1, 3, MAX, MIN}) {
            due("plan(2, " + n + ")", x -> x.plan(2, n), NONE);
        }
        for (int n : new int[] {-2, 5, MAX, MIN}) {
            due("book(" + n + ", 9)", x -> x.book(n, 9), NONE);
        }
        for (int n : new int[] {-1, 6, MAX, MIN}) {
            due("count(" + n + ")", x -> x.count(n), BAD);
        }
    }

    private void tapes() {
        for (int n : new int[] {-1, 6, MAX, MIN}) {
            due("judge(" + n + ", 0)", x -> x.judge(n, 0), NONE);
            due("tape(" + n + ", 0, 1)", x -> x.tape(n, 0, 1), NONE);
            due("tape(" + n + ", -1, 0)", x -> x.tape(n, -1, 0), NONE);
            due("tape(" + n + ", 5, -1)", x -> x.tape(n, 5, -1), NONE);
            due("item(" + n + ", -1, 9)", x -> x.item(n, -1, 9), NONE);
            due("read(" + n + ", 0)", x -> x.read(n, 0), NO);
            due("shift(" + n + ", 0, 5, 0, 1)", x -> x.shift(n, 0, 5, 0, 1), NONE);
            due("shift(5, 0, " + n + ", 0, 1)", x -> x.shift(5, 0, n, 0, 1), NONE);
            due("shift(0, 0, " + n + ", 0, 1)", x -> x.shift(0, 0, n, 0, 1), NONE);
        }
        for (int n : new int[] {-2, 5, MAX, MIN}) {
            due("tape(0, " + n + ", 1)", x -> x.tape(0, n, 1), BAD);
            due("tape(0, " + n + ", -1)", x -> x.tape(0, n, -1), BAD);
        }
        for (int sort = 0; sort < 5; sort++) {
            int of = sort;
            due("tape(0, " + of + ", 61)", x -> x.tape(0, of, 61), BAD);
            due("tape(0, " + of + ", -1)", x -> x.tape(0, of, -1), SIZE);
        }
        due("tape(2, 2, MAX)", x -> x.tape(2, 2, MAX), BAD);
        due("tape(2, 2, MIN)", x -> x.tape(2, 2, MIN), SIZE);
        for (int n : new int[] {0, -1, 60, MAX, MIN}) {
            due("item(5, " + n + ", 9)", x -> x.item(5, n, 9), NOTHING);
            due("read(5, " + n + ")", x -> x.read(5, n), NO);
            due("shift(5, " + n + ", 0, 0, 1)", x -> x.shift(5, n, 0, 0, 1), NOTHING);
            due("shift(0, 0, 5, " + n + ", 1)", x -> x.shift(0, 0, 5, n, 1), NOTHING);
        }
    }

    // ---- refused in one state

    private void whereNothingIs() {
        due("line()", ShellLines::line, -10);
        due("undo()", ShellLines::undo, STATE);
        due("define(0, 0)", x -> x.define(0, 0), NONE);
        due("trap(0)", x -> x.trap(0), NONE);
        due("plan(0, 0)", x -> x.plan(0, 0), NONE);
        due("alike(0, 0)", x -> x.alike(0, 0), NONE);
        for (int n = 0; n < 8; n++) {
            int line = n;
            due("of(" + n + ", 0)", x -> x.of(line, 0), NONE);
            due("run(" + n + ")", x -> x.run(line), NONE);
            due("job(" + n + ")", x -> x.job(line), NONE);
            due("on(" + n + ", 3)", x -> x.on(line, 3), NO);
            due("fits(" + n + ", 0, 1)", x -> x.fits(line, 0, 1), NONE);
            due("odds(" + n + ", 0, 1)", x -> x.odds(line, 0, 1), NO);
            due("mean(" + n + ", 1)", x -> x.mean(line, 1), NO);
            due("turn(" + n + ")", x -> x.turn(line), NO);
            due("stop(" + n + ")", x -> x.stop(line), NONE);
        }
        for (int n = 0; n < 6; n++) {
            int tape = n;
            due("item(" + n + ", 0, 9)", x -> x.item(tape, 0, 9), NOTHING);
            due("shift(" + n + ", 0, 0, 0, 0)", x -> x.shift(tape, 0, 0, 0, 0), NOTHING);
        }
    }

    private void whereSomeIs() {
        due("undo()", ShellLines::undo, STATE);
        due("define(0, 4)", x -> x.define(0, 4), NONE);
        due("trap(4)", x -> x.trap(4), NONE);
        due("run(4)", x -> x.run(4), NONE);
        due("job(4)", x -> x.job(4), NONE);
        due("plan(0, 4)", x -> x.plan(0, 4), NONE);
        due("alike(3, 4)", x -> x.alike(3, 4), NONE);
        due("turn(2)", x -> x.turn(2), NO);
        due("stop(2)", x -> x.stop(2), NONE);
        for (int n : new int[] {0, 1, 3, 4}) {
            due("judge(" + n + ", 0)", x -> x.judge(n, 0), CAST);
            due("judge(" + n + ", -1)", x -> x.judge(n, -1), CAST);
            due("shift(2, 0, " + n + ", 0, 1)", x -> x.shift(2, 0, n, 0, 1), CAST);
            due("shift(" + n + ", -1, 2, 0, 1)", x -> x.shift(n, -1, 2, 0, 1), CAST);
        }
        for (int n : new int[] {-1, 3, MAX, MIN}) {
            due("item(0, " + n + ", 9)", x -> x.item(0, n, 9), PLACE);
            due("read(0, " + n + ")", x -> x.read(0, n), NO);
            due("shift(0, " + n + ", 0, 0, 1)", x -> x.shift(0, n, 0, 0, 1), PLACE);
            due("shift(0, 0, 0, " + n + ", 1)", x -> x.shift(0, 0, 0, n, 1), PLACE);
        }
        for (int n : new int[] {-1, 3, MAX, MIN}) {
            due("shift(0, 0, 0, 1, " + n + ")", x -> x.shift(0, 0, 0, 1, n), PLACE);
        }
    }

    private void whereAllIs() {
        for (int n : new int[] {0, 'o', 127}) {
            due("feed(" + n + ")", x -> x.feed(n), FULL);
        }
        due("line()", ShellLines::line, FULL);
        for (int n = 0; n < 8; n++) {
            int line = n;
            due("job(" + n + ")", x -> x.job(line), FULL);
            due("plan(0, " + n + ")", x -> x.plan(0, line), FULL);
        }
        for (int n = 0; n < 5; n++) {
            int name = n;
            due("book(" + n + ", 9)", x -> x.book(name, 9), FULL);
            due("plan(1, " + n + ")", x -> x.plan(1, name), FULL);
        }
        for (int n : new int[] {0, 59}) {
            due("see(" + n + ", 9)", x -> x.see(n, 9), FULL);
        }
        due("plan(2, 0)", x -> x.plan(2, 0), FULL);
        due("plan(3, 0)", x -> x.plan(3, 0), FULL);
        due("plan(3, 9)", x -> x.plan(3, 9), FULL);
    }

    // ---- asked

    private void asked() {
        boolean whole = state == State.WHOLE;
        due("of(0, 1)", x -> x.of(0, 1), 2);
        due("told(10)", x -> x.told(10), 3);
        due("told(2)", x -> x.told(2), whole ? 4 : 0);
        due("on(0, 0)", x -> x.on(0, 0), 4);
        due("on(1, 1)", x -> x.on(1, 1), 2);
        due("on(1, 3)", x -> x.on(1, 3), 58);
        due("on(3, 40)", x -> x.on(3, 40), 7);
        due("fits(0, 0, 0)", x -> x.fits(0, 0, 0), 1);
        due("fits(0, 0, 1)", x -> x.fits(0, 0, 1), 3);
        due("alike(2, 3)", x -> x.alike(2, 3), 1);
        due("alike(0, 1)", x -> x.alike(0, 1), 0);
        due("odds(0, 0, 0)", x -> x.odds(0, 0, 0), 1);
        due("odds(1, 0, 1)", x -> x.odds(1, 0, 1), 1);
        due("mean(0, 0)", x -> x.mean(0, 0), 11);
        due("mean(0, 1)", x -> x.mean(0, 1), 2);
        due("ends(0)", x -> x.ends(0), whole ? 0 : 3);
        due("looked()", ShellLines::looked, -5);
        due("judge(2, 0)", x -> x.judge(2, 0), whole ? 0 : -5);
        due("judge(2, 1)", x -> x.judge(2, 1), 0);
        due("judge(5, 0)", x -> x.judge(5, 0), 100);
        for (int what = 0; what < 6; what++) {
            int of = what;
            int[] some = {4, 2, 1, 1, 1, 5};
            int[] all = {8, 4, 5, 10, 8, 100};
            due("count(" + of + ")", x -> x.count(of), whole ? all[of] : some[of]);
        }
        due("read(0, 1)", x -> x.read(0, 1), 5);
        if (whole) {
            due("on(5, 0)", x -> x.on(5, 0), 0);
            due("mean(5, 0)", x -> x.mean(5, 0), NO);
            due("alike(5, 4)", x -> x.alike(5, 4), 1);
            due("odds(5, 1, 0)", x -> x.odds(5, 1, 0), 1);
        }
    }
}
