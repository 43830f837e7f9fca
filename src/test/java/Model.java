import java.util.ArrayList;
import java.util.Arrays;
import java.util.List;

/**
 * The document's promises once more, written otherwise than ShellLines: texts are split, stages are objects that
 * ask one another, and what changes nothing goes on a copy of the whole. ModelTest compares the two.
 */
final class Model {
    private static final long NO = Long.MIN_VALUE;
    private static final List<String> PLAIN = List.of("echo", "seq", "add", "mul", "mod", "keep", "take", "sum", "set", "ok", "fail");
    private static final List<String> CALLS = List.of("f", "g", "h");

    private String text = "";
    private final List<String> lines = new ArrayList<>();
    private World world = new World();
    private World image;
    private final Goer[] jobs = new Goer[4];
    private final int[] jobLines = new int[4];
    private final Long[][] tapes = new Long[6][];
    private final int[] sorts = new int[6];

    /** What THE IMAGE keeps. */
    private static final class World implements Cloneable {
        int[] values = new int[5];
        int[] functions = {-5, -5, -5};
        int trap = -5;
        List<Integer> out = List.of();
        int status;
        int reads;
        List<int[]> seen = new ArrayList<>();
        List<int[]> plan = new ArrayList<>();
        List<int[]> book = new ArrayList<>();

        World copy() {
            World w = new World();
            w.values = values.clone();
            w.functions = functions.clone();
            w.trap = trap;
            w.out = new ArrayList<>(out);
            w.status = status;
            w.reads = reads;
            w.seen = new ArrayList<>(seen);
            w.plan = new ArrayList<>(plan);
            w.book = new ArrayList<>(book);
            return w;
        }
    }

    /** FUEL and READS of what goes, and the world that it goes in. */
    private static final class Tank {
        int fuel = 60;
        int reads;
        World world;
    }

    // ---- texts

    /** The FAULT; -1: none. Goes byte by byte with a state, the depth alone told beside it. */
    static int fault(String t) {
        int depth = 0;
        int stage = 0;
        // How many stages stood ahead in the pipes around.
        int i = 0;
        boolean over = false;
        while (true) {
            if (!over) {
                if (stage == 0 && i < t.length() && t.charAt(i) == '{') {
                    if (depth == 3) {
                        return i;
                    }
                    depth++;
                    i++;
                    continue;
                }
                String word = t.substring(i).replaceAll("(?s)[^a-z].*", "");
                boolean call = CALLS.contains(word);
                if (!PLAIN.contains(word) && !(call && stage == 0)) {
                    return i;
                }
                i += word.length();
                String[] takes = takes(word);
                for (int k = 0; k < takes.length; k++) {
                    if (k > 0 && (i >= t.length() || t.charAt(i) != ' ')) {
                        break;
                    }
                    int matched = matched(takes[k], t, i);
                    if (matched < 0) {
                        return i + (-1 - matched);
                    }
                    i += matched;
                }
                over = true;
            }
            if (i == t.length()) {
                return depth == 0 ? -1 : i;
            }
            char c = t.charAt(i);
            if (c == '|' && stage < 5) {
                stage++;
                over = false;
            } else if (c == ';' || c == '&' || c == '/') {
                stage = 0;
                over = false;
            } else if (c == '}' && depth > 0) {
                // {LIST} is the first stage of its pipe, so that is where the pipe goes on.
                depth--;
                stage = 0;
            } else {
                return i;
            }
            i++;
        }
    }

    private static String[] takes(String word) {
        switch (word) {
            case "sum":
            case "ok":
                return new String[0];
            case "set":
                return new String[] {"l"};
            case "echo":
                return new String[] {"n", "n", "n", "n"};
            default:
                return new String[] {"n"};
        }
    }

    /** How many bytes a blank and a letter or N are; else -1 less how many of them stand. */
    private static int matched(String kind, String t, int from) {
        if (from >= t.length() || t.charAt(from) != ' ') {
            return -1;
        }
        String rest = t.substring(from + 1);
        if (kind.equals("l")) {
            return rest.matches("(?s)[a-e].*") ? 2 : -2;
        }
        if (rest.startsWith("$")) {
            return rest.matches("(?s).[a-ep].*") ? 3 : -3;
        }
        int digits = 0;
        while (digits < 3 && digits < rest.length() && Character.isDigit(rest.charAt(digits))) {
            digits++;
        }
        return digits == 0 ? -2 : 1 + digits;
    }

    /** A LIST's pipes, each with the sign ahead of it. */
    private static List<String> pipes(String list) {
        List<String> pipes = new ArrayList<>();
        int depth = 0;
        int from = 0;
        String text = ";" + list;
        for (int i = 0; i < text.length(); i++) {
            char c = text.charAt(i);
            depth += c == '{' ? 1 : c == '}' ? -1 : 0;
            if (i > 0 && depth == 0 && ";&/".indexOf(c) >= 0) {
                pipes.add(text.substring(from, i));
                from = i;
            }
        }
        pipes.add(text.substring(from));
        return pipes;
    }

    private static List<String> stages(String pipe) {
        List<String> stages = new ArrayList<>();
        int depth = 0;
        int from = 0;
        for (int i = 0; i < pipe.length(); i++) {
            char c = pipe.charAt(i);
            depth += c == '{' ? 1 : c == '}' ? -1 : 0;
            if (depth == 0 && c == '|') {
                stages.add(pipe.substring(from, i));
                from = i + 1;
            }
        }
        stages.add(pipe.substring(from));
        return stages;
    }

    // ---- what goes

    /** A STAGE that began; null: END. */
    private abstract static class Asked {
        final Tank tank;
        final Asked ahead;
        boolean ended;

        Asked(Tank tank, Asked ahead) {
            this.tank = tank;
            this.ahead = ahead;
        }

        Integer next() {
            if (ended) {
                return null;
            }
            Integer x = give();
            if (x == null) {
                ended = true;
            }
            return x;
        }

        Integer pull() {
            Integer x = ahead == null ? null : ahead.next();
            if (x != null) {
                tank.reads++;
            }
            return x;
        }

        abstract Integer give();

        int status() {
            return 0;
        }
    }

    /** A LIST that goes. */
    private final class Goer {
        final Tank tank;
        final List<String> pipes;
        final int parameter;
        final int going;
        int at;
        Asked last;
        int status;

        Goer(Tank tank, String list, int parameter, int going) {
            this.tank = tank;
            this.pipes = pipes(list);
            this.parameter = parameter;
            this.going = going;
        }

        Integer next() {
            while (true) {
                if (last == null && !begun()) {
                    return null;
                }
                if (last != null) {
                    Integer x = last.next();
                    if (x != null) {
                        return x;
                    }
                    status = last.status();
                    last = null;
                }
            }
        }

        private boolean begun() {
            if (at == pipes.size()) {
                return false;
            }
            String pipe = pipes.get(at++);
            char join = pipe.charAt(0);
            if (join == '&' && status != 0 || join == '/' && status == 0) {
                return true;
            }
            if (tank.fuel == 0) {
                status = 8;
                return true;
            }
            tank.fuel--;
            Asked ahead = null;
            for (String stage : stages(pipe.substring(1))) {
                ahead = stage(stage, ahead);
            }
            last = ahead;
            return true;
        }

        private int worth(String n) {
            if (n.equals("$p")) {
                return parameter;
            }
            return n.startsWith("$") ? tank.world.values[n.charAt(1) - 'a'] : Integer.parseInt(n);
        }

        private Asked stage(String text, Asked ahead) {
            if (text.startsWith("{")) {
                return new Inner(this, ahead, text.substring(1, text.length() - 1), -1, parameter);
            }
            String[] words = text.split(" ");
            if (words[0].equals("set")) {
                return new SetTo(tank, ahead, words[1].charAt(0) - 'a');
            }
            int[] n = new int[words.length - 1];
            for (int i = 0; i < n.length; i++) {
                n[i] = worth(words[i + 1]);
            }
            if (CALLS.contains(words[0])) {
                return new Inner(this, ahead, null, CALLS.indexOf(words[0]), n[0]);
            }
            return new Plain(tank, ahead, words[0], n);
        }

        List<Integer> all(int most) {
            List<Integer> all = new ArrayList<>();
            for (Integer x = next(); x != null; x = next()) {
                if (all.size() < most) {
                    all.add(x);
                }
            }
            return all;
        }
    }

    private final class Inner extends Asked {
        private final Goer around;
        private final String list;
        private final int function;
        private final int parameter;
        private List<Integer> wrote;
        private int status;

        Inner(Goer around, Asked ahead, String list, int function, int parameter) {
            super(around.tank, ahead);
            this.around = around;
            this.list = list;
            this.function = function;
            this.parameter = parameter;
        }

        @Override
        Integer give() {
            if (wrote == null) {
                wrote = new ArrayList<>();
                String goes = list;
                if (function >= 0) {
                    int line = tank.world.functions[function];
                    goes = line < 0 ? null : lines.get(line);
                }
                if (goes == null) {
                    status = 1;
                } else if (function >= 0 && around.going == 4) {
                    status = 9;
                } else {
                    Goer goer = new Goer(tank, goes, parameter, around.going + (function >= 0 ? 1 : 0));
                    wrote = goer.all(60);
                    status = goer.status;
                }
            }
            return wrote.isEmpty() ? null : wrote.remove(0);
        }

        @Override
        int status() {
            return status;
        }
    }

    private static final class SetTo extends Asked {
        private final int name;
        private boolean came;

        SetTo(Tank tank, Asked ahead, int name) {
            super(tank, ahead);
            this.name = name;
        }

        @Override
        Integer give() {
            Integer latest = null;
            for (Integer x = pull(); x != null; x = pull()) {
                latest = x;
            }
            if (latest != null) {
                came = true;
                tank.world.values[name] = latest;
            }
            return null;
        }

        @Override
        int status() {
            return came ? 0 : 1;
        }
    }

    private static final class Plain extends Asked {
        private final String word;
        private final int[] n;
        private int given;

        Plain(Tank tank, Asked ahead, String word, int[] n) {
            super(tank, ahead);
            this.word = word;
            this.n = n;
        }

        @Override
        Integer give() {
            int first = n.length > 0 ? n[0] : 0;
            switch (word) {
                case "echo":
                    return given < n.length ? (Integer) n[given++] : null;
                case "seq":
                    return given < first && given < 99 ? (Integer) (++given) : null;
                case "take":
                    return given++ < first ? pull() : null;
                case "mod":
                    return first == 0 ? null : mapped(pull(), first);
                case "add":
                case "mul":
                    return mapped(pull(), first);
                case "keep":
                    return kept(first);
                case "sum":
                    return given++ == 0 ? (Integer) summed() : null;
                default:
                    return null;
            }
        }

        private Integer mapped(Integer x, int by) {
            if (x == null) {
                return null;
            }
            long v = x;
            return (int) (word.equals("add") ? v + by : word.equals("mul") ? v * by : v % by);
        }

        private Integer kept(int by) {
            Integer x = pull();
            while (x != null && !(by == 0 ? x == 0 : (long) x % by == 0)) {
                x = pull();
            }
            return x;
        }

        private int summed() {
            long sum = 0;
            for (Integer x = pull(); x != null; x = pull()) {
                sum += x;
            }
            return (int) sum;
        }

        @Override
        int status() {
            return word.equals("fail") ? n[0] : word.equals("mod") && n[0] == 0 ? 2 : 0;
        }
    }

    /** A RUN; the FUEL that is left. */
    private int goes(World w, int line) {
        Tank tank = new Tank();
        tank.world = w;
        Goer goer = new Goer(tank, lines.get(line), 0, 0);
        w.out = goer.all(Integer.MAX_VALUE);
        w.status = goer.status;
        if (w.status != 0 && w.trap >= 0) {
            w.out.addAll(new Goer(tank, lines.get(w.trap), 0, 0).all(Integer.MAX_VALUE));
        }
        w.out = new ArrayList<>(w.out.subList(0, Math.min(60, w.out.size())));
        w.reads = tank.reads;
        return tank.fuel;
    }

    // ---- the calls

    private boolean isLine(int line) {
        return line >= 0 && line < lines.size();
    }

    private static boolean in(int i, int most) {
        return i >= 0 && i < most;
    }

    int feed(int sign) {
        if (!in(sign, 128)) {
            return -2;
        }
        if (text.length() == 100) {
            return -4;
        }
        text += (char) sign;
        return text.length();
    }

    int line() {
        if (lines.size() == 8) {
            return -4;
        }
        String read = text;
        text = "";
        int fault = fault(read);
        if (fault >= 0) {
            return -10 - fault;
        }
        lines.add(read);
        return lines.size() - 1;
    }

    int of(int line, int what) {
        if (!isLine(line) || !in(what, 3)) {
            return -1;
        }
        String t = lines.get(line);
        if (what == 0) {
            return pipes(t).size();
        }
        int stages = 1;
        int depth = 0;
        int deepest = 0;
        for (char c : t.toCharArray()) {
            stages += "{|;&/".indexOf(c) >= 0 ? 1 : 0;
            depth += c == '{' ? 1 : c == '}' ? -1 : 0;
            deepest = Math.max(deepest, depth);
        }
        return what == 1 ? stages : deepest;
    }

    int define(int function, int line) {
        if (!in(function, 3) || line != -1 && !isLine(line)) {
            return -1;
        }
        int had = world.functions[function];
        world.functions[function] = line == -1 ? -5 : line;
        return had;
    }

    int trap(int line) {
        if (line != -1 && !isLine(line)) {
            return -1;
        }
        int had = world.trap;
        world.trap = line == -1 ? -5 : line;
        return had;
    }

    long value(int name, int v) {
        if (!in(name, 5)) {
            return NO;
        }
        int was = world.values[name];
        world.values[name] = v;
        return was;
    }

    int run(int line) {
        if (!isLine(line)) {
            return -1;
        }
        goes(world, line);
        return world.out.size();
    }

    private static long told(World w, int what) {
        switch (what) {
            case 0:
                return w.out.size();
            case 1:
                return w.status;
            case 2:
                return w.reads;
            default:
                return what >= 40 && what - 40 < w.out.size() ? w.out.get(what - 40) : NO;
        }
    }

    long told(int what) {
        if (in(what - 10, 5)) {
            return world.values[what - 10];
        }
        if (in(what - 20, 3)) {
            return world.functions[what - 20];
        }
        return what == 30 ? world.trap : told(world, what);
    }

    int job(int line) {
        if (!isLine(line)) {
            return -1;
        }
        for (int i = 0; i < 4; i++) {
            if (jobs[i] == null) {
                jobs[i] = new Goer(new Tank(), lines.get(line), 0, 0);
                jobLines[i] = line;
                return i;
            }
        }
        return -4;
    }

    long turn(int job) {
        if (!in(job, 4) || jobs[job] == null) {
            return NO;
        }
        jobs[job].tank.world = world;
        Integer x = jobs[job].next();
        if (x == null) {
            jobs[job] = null;
            return NO;
        }
        return x;
    }

    int stop(int job) {
        if (!in(job, 4) || jobs[job] == null) {
            return -1;
        }
        jobs[job] = null;
        return jobLines[job];
    }

    long on(int line, int what) {
        if (!isLine(line)) {
            return NO;
        }
        World w = world.copy();
        int fuel = goes(w, line);
        return what == 3 ? fuel : told(w, what);
    }

    int see(int place, int v) {
        if (place == -1) {
            world.seen = new ArrayList<>();
            return 0;
        }
        if (!in(place, 60)) {
            return -2;
        }
        return add(world.seen, place, v, 5);
    }

    private static int add(List<int[]> rows, int a, int b, int most) {
        if (rows.size() == most) {
            return -4;
        }
        rows.add(new int[] {a, b});
        return rows.size();
    }

    private World after(int line, int name, int v) {
        World w = world.copy();
        w.values[name] = v;
        goes(w, line);
        return w;
    }

    int fits(int line, int name, int what) {
        if (!isLine(line) || !in(name, 5) || !in(what, 2)) {
            return -1;
        }
        List<Integer> fitting = new ArrayList<>();
        for (int v = 0; v < 20; v++) {
            List<Integer> out = after(line, name, v).out;
            if (world.seen.stream().allMatch(r -> r[0] < out.size() && out.get(r[0]) == r[1])) {
                fitting.add(v);
            }
        }
        return what == 0 ? fitting.size() : fitting.isEmpty() ? -5 : fitting.get(0);
    }

    int alike(int line, int other) {
        if (!isLine(line) || !isLine(other)) {
            return -1;
        }
        World a = world.copy();
        World b = world.copy();
        goes(a, line);
        goes(b, other);
        return a.out.equals(b.out) && a.status == b.status ? 1 : 0;
    }

    private static long part(long above, long below, int part) {
        long a = Math.abs(above);
        long b = below;
        while (b != 0) {
            long left = a % b;
            a = b;
            b = left;
        }
        return part == 0 ? above / a : below / a;
    }

    long odds(int line, int name, int part) {
        if (!isLine(line) || !in(name, 5) || !in(part, 2)) {
            return NO;
        }
        int well = 0;
        for (int v = 0; v < 10; v++) {
            well += after(line, name, v).status == 0 ? 1 : 0;
        }
        return part(well, 10, part);
    }

    long mean(int line, int part) {
        if (!isLine(line) || !in(part, 2)) {
            return NO;
        }
        World w = world.copy();
        goes(w, line);
        long sum = w.out.stream().mapToLong(Integer::longValue).sum();
        return w.out.isEmpty() ? NO : part(sum, w.out.size(), part);
    }

    int plan(int what, int n) {
        if (what == -1) {
            world.plan = new ArrayList<>();
            return 0;
        }
        boolean well = what == 0 && isLine(n) || what == 1 && in(n, 5) || what == 2 && in(n, 3) || what == 3;
        return well ? add(world.plan, what, n, 10) : -1;
    }

    long ends(int name) {
        if (!in(name, 5)) {
            return NO;
        }
        World w = world.copy();
        for (int[] row : world.plan) {
            switch (row[0]) {
                case 0:
                    goes(w, row[1]);
                    break;
                case 1:
                    w.values[row[1]] = 0;
                    break;
                case 2:
                    w.functions[row[1]] = -5;
                    break;
                default:
                    w.trap = -5;
            }
        }
        return w.values[name];
    }

    int book(int name, int v) {
        if (name == -1) {
            world.book = new ArrayList<>();
            return 0;
        }
        return in(name, 5) ? add(world.book, name, v, 8) : -1;
    }

    int looked() {
        for (int[] row : world.book) {
            if (world.values[row[0]] != row[1]) {
                return world.book.indexOf(row);
            }
        }
        return -5;
    }

    int judge(int tape, int i) {
        if (!in(tape, 6)) {
            return -1;
        }
        Long[] row = tapes[tape];
        if (row != null && sorts[tape] != 2) {
            return -12;
        }
        if (world.out.isEmpty()) {
            return -5;
        }
        for (int k = 0; k < world.out.size(); k++) {
            if (row == null || i < 0 || (long) i + k >= row.length) {
                return 100 + k;
            }
            if (row[i + k] != (long) world.out.get(k)) {
                return k;
            }
        }
        return -5;
    }

    int image() {
        image = world.copy();
        return lines.size();
    }

    int undo() {
        if (image == null) {
            return -3;
        }
        world = image.copy();
        return lines.size();
    }

    int count(int what) {
        int there = 0;
        for (Goer job : jobs) {
            there += job == null ? 0 : 1;
        }
        int[] counts = {lines.size(), there, world.seen.size(), world.plan.size(), world.book.size(), text.length()};
        return in(what, 6) ? counts[what] : -2;
    }

    int tape(int tape, int sort, int n) {
        if (!in(tape, 6)) {
            return -1;
        }
        if (sort == -1) {
            tapes[tape] = null;
            return 1;
        }
        if (!in(sort, 5) || n > 60) {
            return -2;
        }
        if (n < 0) {
            return -14;
        }
        tapes[tape] = new Long[n];
        Arrays.fill(tapes[tape], 0L);
        sorts[tape] = sort;
        return 1;
    }

    int item(int tape, int i, long v) {
        if (!in(tape, 6)) {
            return -1;
        }
        if (tapes[tape] == null) {
            return -11;
        }
        if (!in(i, tapes[tape].length)) {
            return -13;
        }
        int unused = new int[] {56, 48, 32, 0, 0}[sorts[tape]];
        tapes[tape][i] = sorts[tape] == 4 ? (v == 0 ? 0L : 1L) : (Long) (v << unused >> unused);
        return 1;
    }

    long read(int tape, int i) {
        return in(tape, 6) && tapes[tape] != null && in(i, tapes[tape].length) ? tapes[tape][i] : NO;
    }

    int shift(int tape, int i, int other, int j, int n) {
        if (!in(tape, 6) || !in(other, 6)) {
            return -1;
        }
        if (tapes[tape] == null || tapes[other] == null) {
            return -11;
        }
        if (sorts[tape] != sorts[other]) {
            return -12;
        }
        if (n < 0 || i < 0 || j < 0 || (long) i + n > tapes[tape].length || (long) j + n > tapes[other].length) {
            return -13;
        }
        Long[] were = tapes[tape].clone();
        for (int k = 0; k < n; k++) {
            tapes[other][j + k] = were[i + k];
        }
        return n;
    }
}
