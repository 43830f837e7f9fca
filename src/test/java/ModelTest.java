import java.util.Random;

/** Random calls, always the same ones, on ShellLines and on Model: both answer alike. */
public final class ModelTest {
    private static final int RUNS = 3000;
    private static final int FAULTS = 60000;
    private static final int CALLS = 512;
    private static final Check C = new Check("ModelTest");

    private final Random random;
    private ShellLines x;
    private Model y;

    private ModelTest(long seed) {
        random = new Random(seed);
    }

    public static void main(String[] args) {
        long seed = args.length > 0 ? Long.parseLong(args[0]) : 1;
        for (int i = 0; i < FAULTS; i++) {
            new ModelTest(seed * 1000003 + i).fault();
        }
        for (int i = 0; i < RUNS; i++) {
            new ModelTest(seed * 1000033 + i).run();
        }
        C.end();
    }

    private void fault() {
        x = new ShellLines();
        String text = random.nextInt(4) == 0 ? list(0) : spoilt(list(0));
        if (text.length() <= 100) {
            int fault = Model.fault(text);
            C.due("line of '" + text + "'", Check.line(x, text), fault < 0 ? 0 : -10 - fault);
        }
    }

    private void run() {
        x = new ShellLines();
        y = new Model();
        StringBuilder calls = new StringBuilder();
        int most = 100 + random.nextInt(CALLS - 100);
        for (int i = 0; i < most; ) {
            if (random.nextInt(12) == 0 && i < most - 110) {
                i += text(calls);
            } else {
                call(calls);
                i++;
            }
        }
    }

    private int text(StringBuilder calls) {
        String text = list(0);
        if (random.nextInt(6) == 0) {
            text = spoilt(text);
        }
        for (int i = 0; i < text.length(); i++) {
            due(calls, "feed " + text.charAt(i), x.feed(text.charAt(i)), y.feed(text.charAt(i)));
        }
        due(calls, "line()", x.line(), y.line());
        return text.length() + 1;
    }

    private void due(StringBuilder calls, String call, long got, long want) {
        calls.append("  ").append(call).append('\n');
        C.due(call, got, want);
        if (got != want) {
            System.out.println(calls);
            System.exit(1);
        }
    }

    private String list(int depth) {
        StringBuilder list = new StringBuilder(pipe(depth));
        int more = random.nextInt(depth == 0 ? 5 : 3);
        for (int i = 0; i < more; i++) {
            list.append(";&/;".charAt(random.nextInt(4))).append(pipe(depth));
        }
        return list.toString();
    }

    private String pipe(int depth) {
        StringBuilder pipe = new StringBuilder();
        int stages = 1 + random.nextInt(random.nextInt(4) == 0 ? 6 : 3);
        for (int i = 0; i < stages; i++) {
            pipe.append(i > 0 ? "|" : "");
            int kind = random.nextInt(10);
            if (i > 0) {
                pipe.append(command(kind < 8 ? 2 : 0));
            } else if (kind < 2 && depth < 3) {
                pipe.append("{").append(list(depth + 1)).append("}");
            } else if (kind < 4) {
                pipe.append("fgh".charAt(random.nextInt(3))).append(n());
            } else {
                pipe.append(command(kind < 9 ? 0 : 2));
            }
        }
        return pipe.toString();
    }

    private String command(int from) {
        String[] words = {"echo", "seq", "add", "mul", "mod", "keep", "take", "sum", "set", "ok", "fail"};
        int at = from + random.nextInt(from == 0 && random.nextInt(3) > 0 ? 2 : words.length - from);
        switch (words[at]) {
            case "sum":
            case "ok":
                return words[at];
            case "set":
                return "set " + "abcde".charAt(random.nextInt(5));
            case "echo":
                return "echo" + n() + (random.nextBoolean() ? n() : "") + (random.nextBoolean() ? n() : "");
            default:
                return words[at] + n();
        }
    }

    private String n() {
        switch (random.nextInt(8)) {
            case 0:
            case 1:
                return " $" + "abcde".charAt(random.nextInt(random.nextBoolean() ? 2 : 5));
            case 2:
                return " $p";
            case 3:
                return " " + random.nextInt(1000);
            default:
                return " " + random.nextInt(5);
        }
    }

    private String spoilt(String text) {
        StringBuilder spoilt = new StringBuilder(text);
        String signs = "efghiokscpad$0159 ;&/|{}{}A\n";
        int times = 1 + random.nextInt(2);
        for (int i = 0; i < times; i++) {
            int at = random.nextInt(spoilt.length() + 1);
            int kind = random.nextInt(4);
            char sign = signs.charAt(random.nextInt(signs.length()));
            if (kind == 0) {
                spoilt.insert(at, sign);
            } else if (kind == 1) {
                spoilt.setLength(at);
            } else if (at < spoilt.length() && kind == 2) {
                spoilt.setCharAt(at, sign);
            } else if (at < spoilt.length()) {
                spoilt.deleteCharAt(at);
            }
        }
        return spoilt.toString();
    }

    /** A number below a bound, mostly; now and then one around it, or any. */
    private int number(int bound) {
        int kind = random.nextInt(40);
        if (kind == 0) {
            return -1;
        }
        if (kind == 1) {
            return bound;
        }
        return kind == 2 ? random.nextInt() : random.nextInt(bound);
    }

    private int small() {
        switch (random.nextInt(12)) {
            case 0:
                return random.nextInt();
            case 1:
                return random.nextBoolean() ? Integer.MIN_VALUE : Integer.MAX_VALUE;
            default:
                return random.nextInt(12) - 3;
        }
    }

    private int line() {
        return number(Math.max(1, y.count(0)));
    }

    private int told() {
        int[] whats = {random.nextInt(4), 10 + random.nextInt(6), 20 + random.nextInt(4), 30, 40 + random.nextInt(8), 40 + random.nextInt(61), small()};
        return whats[random.nextInt(whats.length)];
    }

    private void call(StringBuilder calls) {
        int kind = random.nextInt(40);
        if (kind < 12) {
            changes(calls, kind);
        } else if (kind < 28) {
            asks(calls, kind);
        } else {
            tapes(calls, kind);
        }
    }

    private void changes(StringBuilder calls, int kind) {
        int line = line();
        int a = number(5);
        int v = small();
        switch (kind) {
            case 0:
                a = number(3);
                line = random.nextInt(5) == 0 ? -1 : line;
                due(calls, "define " + a + " " + line, x.define(a, line), y.define(a, line));
                break;
            case 1:
                line = random.nextInt(3) == 0 ? -1 : line;
                due(calls, "trap " + line, x.trap(line), y.trap(line));
                break;
            case 2:
                due(calls, "value " + a + " " + v, x.value(a, v), y.value(a, v));
                break;
            case 3:
            case 4:
            case 5:
                due(calls, "run " + line, x.run(line), y.run(line));
                break;
            case 6:
                due(calls, "job " + line, x.job(line), y.job(line));
                break;
            case 7:
            case 8:
            case 9:
                a = number(4);
                due(calls, "turn " + a, x.turn(a), y.turn(a));
                break;
            case 10:
                a = random.nextInt(3) == 0 ? number(4) : 9;
                due(calls, "stop " + a, x.stop(a), y.stop(a));
                break;
            default:
                due(calls, "feed " + v, x.feed(v), y.feed(v));
                due(calls, "line()", x.line(), y.line());
        }
    }

    private void asks(StringBuilder calls, int kind) {
        int line = line();
        int a = number(5);
        int what = told();
        switch (kind) {
            case 12:
            case 13:
            case 14:
            case 15:
                due(calls, "told " + what, x.told(what), y.told(what));
                break;
            case 16:
            case 17:
            case 18:
                due(calls, "on " + line + " " + what, x.on(line, what), y.on(line, what));
                break;
            case 19:
            case 20:
                what = number(2);
                due(calls, "fits " + line + " " + a + " " + what, x.fits(line, a, what), y.fits(line, a, what));
                break;
            case 21:
                int other = line();
                due(calls, "alike " + line + " " + other, x.alike(line, other), y.alike(line, other));
                break;
            case 22:
            case 23:
                what = number(2);
                due(calls, "odds " + line + " " + a + " " + what, x.odds(line, a, what), y.odds(line, a, what));
                break;
            case 24:
                what = number(2);
                due(calls, "mean " + line + " " + what, x.mean(line, what), y.mean(line, what));
                break;
            case 25:
                what = number(3);
                due(calls, "of " + line + " " + what, x.of(line, what), y.of(line, what));
                break;
            case 26:
                due(calls, "ends " + a, x.ends(a), y.ends(a));
                break;
            default:
                due(calls, "looked", x.looked(), y.looked());
        }
    }

    private void tapes(StringBuilder calls, int kind) {
        int tape = number(random.nextBoolean() ? 2 : 6);
        int i = number(8);
        int v = small();
        switch (kind) {
            case 28:
                i = random.nextBoolean() ? number(3) : number(60);
                v = random.nextBoolean() ? v : (int) Math.max(y.told(40 + i), Integer.MIN_VALUE);
                due(calls, "see " + i + " " + v, x.see(i, v), y.see(i, v));
                break;
            case 29:
            case 30:
                i = random.nextBoolean() ? 0 : number(4);
                v = i == 0 ? line() : number(5);
                due(calls, "plan " + i + " " + v, x.plan(i, v), y.plan(i, v));
                break;
            case 31:
                i = number(5);
                v = random.nextBoolean() ? v : (int) Math.max(y.told(10 + i), Integer.MIN_VALUE);
                due(calls, "book " + i + " " + v, x.book(i, v), y.book(i, v));
                break;
            case 32:
                due(calls, "judge " + tape + " " + i, x.judge(tape, i), y.judge(tape, i));
                break;
            case 33:
                if (random.nextInt(4) == 0) {
                    due(calls, "image", x.image(), y.image());
                } else if (random.nextInt(3) == 0) {
                    due(calls, "undo", x.undo(), y.undo());
                }
                break;
            case 34:
                i = number(6);
                due(calls, "count " + i, x.count(i), y.count(i));
                break;
            case 35:
                int sort = random.nextBoolean() ? 2 : number(5);
                i = number(20);
                due(calls, "tape " + tape + " " + sort + " " + i, x.tape(tape, sort, i), y.tape(tape, sort, i));
                break;
            case 36:
            case 37:
                long item = random.nextBoolean() ? random.nextLong() : y.told(40 + random.nextInt(4));
                due(calls, "item " + tape + " " + i + " " + item, x.item(tape, i, item), y.item(tape, i, item));
                break;
            case 38:
                due(calls, "read " + tape + " " + i, x.read(tape, i), y.read(tape, i));
                break;
            default:
                int other = number(2);
                int j = number(8);
                int n = number(8);
                due(calls, "shift " + tape + " " + i + " " + other + " " + j + " " + n, x.shift(tape, i, other, j, n), y.shift(tape, i, other, j, n));
        }
    }
}
