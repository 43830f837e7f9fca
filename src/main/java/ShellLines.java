/**
 * A command shell of composed functions: lines are read from texts, run, gone through as jobs, and asked
 * what they would do. The promises that the methods keep are told in DOC.md.
 */
public final class ShellLines {
    public static final int NONE = -1, BAD = -2, STATE = -3, FULL = -4;
    public static final long NO = Long.MIN_VALUE;

    private static final int NOTHING = -11, CAST = -12, PLACE = -13, SIZE = -14;
    /** Told where a number of something is asked and there is no such thing. */
    private static final int ABSENT = -5;
    private static final int FAULT_FROM = -10, LOOKED_AT_FROM = 100;
    /** From where on told and on tell what there are more of than one. */
    private static final int VALUES_FROM = 10, FUNCTIONS_FROM = 20, TRAP_AT = 30, OUT_FROM = 40;

    private static final int LINES = 8, TEXT = 100, LAST_SIGN = 127;
    private static final int NAMES = 5, FUNCTIONS = 3, JOBS = 4, TAPES = 6;
    private static final int STAGES = 6, TERMS = 4, DIGITS = 3, BRACES_DEEP = 3;
    private static final int FUEL = 60, WRITTEN = 60, SEQ_MOST = 99, GOING = 4;
    private static final int SEEN = 5, PLAN = 10, BOOK = 8;
    private static final int FITS_VALUES = 20, ODDS_VALUES = 10;

    private static final int NO_FUEL = 8, TOO_DEEP = 9, BY_NOTHING = 2;

    /** A term that was read: digits are not below 0, a NAME n is -1 - n, and $p stands behind those. */
    private static final int PARAMETER = -1 - NAMES, NO_TERM = PARAMETER - 1;
    /** Lists that can be going at once: a LINE and the functions' LINES, each with its braces. */
    private static final int LEVELS = (GOING + 1) * (BRACES_DEEP + 1);
    /** What a STAGE answers that has to ask the one ahead; no int and not END. */
    private static final long ASKS = Long.MAX_VALUE;
    /** Far above the steps that any list can take. */
    private static final int MILLION = 1000000;

    private static final int INTS = 2;

    private final Reader reader = new Reader();
    private final Machine machine = new Machine();
    private final Kept now = new Kept();
    private final Kept imaged = new Kept();
    private boolean imageTaken;
    /** Asked things go on copies, so that they change nothing. */
    private final Kept trial = new Kept();
    private final Kept rival = new Kept();
    private final Frame[] jobs = new Frame[JOBS];
    private final int[] jobLines = new int[JOBS];
    private final int[] jobFuel = new int[JOBS];
    private final Tape[] tapes = new Tape[TAPES];

    public ShellLines() {
        for (int i = 0; i < JOBS; i++) {
            jobs[i] = new Frame();
            jobLines[i] = ABSENT;
        }
        for (int i = 0; i < TAPES; i++) {
            tapes[i] = new Tape();
        }
    }

    // ---- lines

    public int feed(int sign) {
        if (sign < 0 || sign > LAST_SIGN) {
            return BAD;
        }
        return reader.add(sign) ? reader.length : FULL;
    }

    public int line() {
        if (machine.lineCount >= LINES) {
            return FULL;
        }
        Line read = reader.readLine();
        return read == null ? FAULT_FROM - reader.fault : machine.add(read);
    }

    public int of(int line, int what) {
        if (!isLine(line)) {
            return NONE;
        }
        Line told = machine.lines[line];
        switch (what) {
            case 0:
                return told.pipes;
            case 1:
                return told.stages;
            case 2:
                return told.depth;
            default:
                return NONE;
        }
    }

    public int define(int function, int line) {
        if (!isFunction(function) || !isLineOrNone(line)) {
            return NONE;
        }
        int had = now.functions[function];
        now.functions[function] = line < 0 ? ABSENT : line;
        return had;
    }

    public int trap(int line) {
        if (!isLineOrNone(line)) {
            return NONE;
        }
        int had = now.trap;
        now.trap = line < 0 ? ABSENT : line;
        return had;
    }

    public long value(int name, int v) {
        if (!isName(name)) {
            return NO;
        }
        int was = now.values[name];
        now.values[name] = v;
        return was;
    }

    private boolean isLine(int line) {
        return line >= 0 && line < machine.lineCount;
    }

    private boolean isLineOrNone(int line) {
        return line == -1 || isLine(line);
    }

    private static boolean isName(int name) {
        return name >= 0 && name < NAMES;
    }

    private static boolean isFunction(int function) {
        return function >= 0 && function < FUNCTIONS;
    }

    // ---- runs, jobs

    public int run(int line) {
        if (!isLine(line)) {
            return NONE;
        }
        machine.runLine(now, line);
        return now.out.size;
    }

    public long told(int what) {
        if (what >= VALUES_FROM && what < VALUES_FROM + NAMES) {
            return now.values[what - VALUES_FROM];
        }
        if (what >= FUNCTIONS_FROM && what < FUNCTIONS_FROM + FUNCTIONS) {
            return now.functions[what - FUNCTIONS_FROM];
        }
        return what == TRAP_AT ? now.trap : ofRun(now, what);
    }

    /** What told and on both tell of a RUN. */
    private static long ofRun(Kept of, int what) {
        switch (what) {
            case 0:
                return of.out.size;
            case 1:
                return of.status;
            case 2:
                return of.reads;
            default:
                return what < OUT_FROM ? NO : of.out.at(what - OUT_FROM);
        }
    }

    public int job(int line) {
        if (!isLine(line)) {
            return NONE;
        }
        for (int i = 0; i < JOBS; i++) {
            if (jobLines[i] == ABSENT) {
                jobLines[i] = line;
                jobFuel[i] = FUEL;
                jobs[i].open(machine.firstOf(line), 0, 0);
                return i;
            }
        }
        return FULL;
    }

    public long turn(int job) {
        if (!isJob(job)) {
            return NO;
        }
        machine.fuel = jobFuel[job];
        long came = machine.goOn(now, jobs[job], 0);
        jobFuel[job] = machine.fuel;
        if (came == NO) {
            jobLines[job] = ABSENT;
        }
        return came;
    }

    public int stop(int job) {
        if (!isJob(job)) {
            return NONE;
        }
        int had = jobLines[job];
        jobLines[job] = ABSENT;
        return had;
    }

    private boolean isJob(int job) {
        return job >= 0 && job < JOBS && jobLines[job] != ABSENT;
    }

    // ---- what would be

    public long on(int line, int what) {
        if (!isLine(line)) {
            return NO;
        }
        tryLine(trial, line);
        return what == 3 ? machine.fuel : ofRun(trial, what);
    }

    private void tryLine(Kept copy, int line) {
        copy.copyFrom(now);
        machine.runLine(copy, line);
    }

    private void tryLineWith(int line, int name, int v) {
        trial.copyFrom(now);
        trial.values[name] = v;
        machine.runLine(trial, line);
    }

    public int see(int place, int v) {
        if (place == -1) {
            return now.seen.clear();
        }
        if (place < 0 || place >= WRITTEN) {
            return BAD;
        }
        return now.seen.add(place, v);
    }

    public int fits(int line, int name, int what) {
        if (!isLine(line) || !isName(name) || what < 0 || what > 1) {
            return NONE;
        }
        int fitting = 0;
        int least = ABSENT;
        for (int v = 0; v < FITS_VALUES; v++) {
            tryLineWith(line, name, v);
            if (hasAllSeen(trial.out)) {
                fitting++;
                if (least == ABSENT) {
                    least = v;
                }
            }
        }
        return what == 0 ? fitting : least;
    }

    private boolean hasAllSeen(Numbers out) {
        for (int i = 0; i < now.seen.size; i++) {
            if (out.at(now.seen.left[i]) != now.seen.right[i]) {
                return false;
            }
        }
        return true;
    }

    public int alike(int line, int other) {
        if (!isLine(line) || !isLine(other)) {
            return NONE;
        }
        tryLine(trial, line);
        tryLine(rival, other);
        boolean same = trial.status == rival.status && trial.out.isLike(rival.out);
        return same ? 1 : 0;
    }

    public long odds(int line, int name, int part) {
        if (!isLine(line) || !isName(name) || !isPart(part)) {
            return NO;
        }
        int well = 0;
        for (int v = 0; v < ODDS_VALUES; v++) {
            tryLineWith(line, name, v);
            if (trial.status == 0) {
                well++;
            }
        }
        return lowest(well, ODDS_VALUES, part);
    }

    public long mean(int line, int part) {
        if (!isLine(line) || !isPart(part)) {
            return NO;
        }
        tryLine(trial, line);
        if (trial.out.size == 0) {
            return NO;
        }
        return lowest(trial.out.sum(), trial.out.size, part);
    }

    private static boolean isPart(int part) {
        return part == 0 || part == 1;
    }

    /** A part of a fraction in lowest terms; below is small (60 at most), so all divisors can be tried. */
    private static long lowest(long above, int below, int part) {
        long divisor = 1;
        for (int d = below; d > 1 && divisor == 1; d--) {
            if (above % d == 0 && below % d == 0) {
                divisor = d;
            }
        }
        return part == 0 ? above / divisor : below / divisor;
    }

    // ---- plans, books

    public int plan(int what, int n) {
        if (what == -1) {
            return now.plan.clear();
        }
        return isPlanned(what, n) ? now.plan.add(what, n) : NONE;
    }

    private boolean isPlanned(int what, int n) {
        switch (what) {
            case 0:
                return isLine(n);
            case 1:
                return isName(n);
            case 2:
                return isFunction(n);
            case 3:
                return true;
            default:
                return false;
        }
    }

    public long ends(int name) {
        if (!isName(name)) {
            return NO;
        }
        trial.copyFrom(now);
        for (int i = 0; i < now.plan.size; i++) {
            carryOut(now.plan.left[i], now.plan.right[i]);
        }
        return trial.values[name];
    }

    private void carryOut(int what, int n) {
        if (what == 0 && isLine(n)) {
            machine.runLine(trial, n);
        } else if (what == 1 && isName(n)) {
            trial.values[n] = 0;
        } else if (what == 2 && isFunction(n)) {
            trial.functions[n] = ABSENT;
        } else if (what == 3) {
            trial.trap = ABSENT;
        }
    }

    public int book(int name, int v) {
        if (name == -1) {
            return now.book.clear();
        }
        return isName(name) ? now.book.add(name, v) : NONE;
    }

    public int looked() {
        for (int i = 0; i < now.book.size; i++) {
            int name = now.book.left[i];
            if (isName(name) && now.values[name] != now.book.right[i]) {
                return i;
            }
        }
        return ABSENT;
    }

    // ---- judging, the image, tapes

    public int judge(int tape, int i) {
        if (!isTape(tape)) {
            return NONE;
        }
        Tape row = tapes[tape];
        if (row.sort >= 0 && row.sort != INTS) {
            return CAST;
        }
        if (now.out.size == 0) {
            return ABSENT;
        }
        for (int k = 0; k < now.out.size; k++) {
            // Subtracted, not added: i may be near the largest int.
            if (i < 0 || i >= row.size - k) {
                return LOOKED_AT_FROM + k;
            }
            if (row.items[i + k] != now.out.at(k)) {
                return k;
            }
        }
        return ABSENT;
    }

    public int image() {
        imaged.copyFrom(now);
        imageTaken = true;
        return machine.lineCount;
    }

    public int undo() {
        if (!imageTaken) {
            return STATE;
        }
        now.copyFrom(imaged);
        return machine.lineCount;
    }

    public int count(int what) {
        switch (what) {
            case 0:
                return machine.lineCount;
            case 1:
                return jobCount();
            case 2:
                return now.seen.size;
            case 3:
                return now.plan.size;
            case 4:
                return now.book.size;
            case 5:
                return reader.length;
            default:
                return BAD;
        }
    }

    private int jobCount() {
        int there = 0;
        for (int i = 0; i < JOBS; i++) {
            if (isJob(i)) {
                there++;
            }
        }
        return there;
    }

    public int tape(int tape, int sort, int n) {
        if (!isTape(tape)) {
            return NONE;
        }
        if (sort == -1) {
            return tapes[tape].become(-1, 0);
        }
        if (sort < 0 || sort > Tape.BOOLEANS || n > Tape.MOST) {
            return BAD;
        }
        return n < 0 ? SIZE : tapes[tape].become(sort, n);
    }

    public int item(int tape, int i, long v) {
        if (!isTape(tape)) {
            return NONE;
        }
        Tape row = tapes[tape];
        if (row.sort < 0) {
            return NOTHING;
        }
        if (i < 0 || i >= row.size) {
            return PLACE;
        }
        row.items[i] = row.held(v);
        return 1;
    }

    public long read(int tape, int i) {
        if (!isTape(tape) || i < 0 || i >= tapes[tape].size) {
            return NO;
        }
        return tapes[tape].items[i];
    }

    public int shift(int tape, int i, int other, int j, int n) {
        if (!isTape(tape) || !isTape(other)) {
            return NONE;
        }
        Tape from = tapes[tape];
        Tape to = tapes[other];
        if (from.sort < 0 || to.sort < 0) {
            return NOTHING;
        }
        if (from.sort != to.sort) {
            return CAST;
        }
        if (!from.has(i, n) || !to.has(j, n)) {
            return PLACE;
        }
        System.arraycopy(from.items, i, to.items, j, n);
        return n;
    }

    private static boolean isTape(int tape) {
        return tape >= 0 && tape < TAPES;
    }

    /** The WORDS, and {LIST}, which stands where one could stand. */
    private enum Word {
        ECHO("echo", 1, TERMS, -1), SEQ("seq", 1, 1, -1), ADD("add", 1, 1, -1), MUL("mul", 1, 1, -1),
        MOD("mod", 1, 1, -1), KEEP("keep", 1, 1, -1), TAKE("take", 1, 1, -1), SUM("sum", 0, 0, -1),
        SET("set", 1, 1, -1), OK("ok", 0, 0, -1), FAIL("fail", 1, 1, -1),
        F("f", 1, 1, 0), G("g", 1, 1, 1), H("h", 1, 1, 2), BRACES("{", 0, 0, -1);

        final String text;
        final int least;
        final int most;
        final int function;

        Word(String text, int least, int most, int function) {
            this.text = text;
            this.least = least;
            this.most = most;
            this.function = function;
        }
    }

    /** A STAGE as it was read. */
    private static final class Stage {
        final Word word;
        final int[] terms = new int[TERMS];
        int termCount;
        /** The first PIPE of {LIST}. */
        Pipe inner;

        Stage(Word word) {
            this.word = word;
        }

        boolean hasList() {
            return word == Word.BRACES || word.function >= 0;
        }
    }

    /** A PIPE as it was read, and the one behind it in its LIST. */
    private static final class Pipe {
        final Stage[] stages = new Stage[STAGES];
        int size = 1;
        int join = ';';
        Pipe next;

        Pipe(Stage first) {
            stages[0] = first;
        }
    }

    /** A LINE, and what is told of it. */
    private static final class Line {
        final Pipe first;
        final int pipes;
        final int stages;
        final int depth;

        Line(Pipe first, int pipes, int stages, int depth) {
            this.first = first;
            this.pipes = pipes;
            this.stages = stages;
            this.depth = depth;
        }
    }

    /** Holds THE TEXT and reads it; what reads a part answers null or false by a FAULT. */
    private static final class Reader {
        private final Word[] words = Word.values();
        private final byte[] text = new byte[TEXT];
        int length;
        int fault;
        private int at;
        private int stages;
        private int deepest;

        boolean add(int sign) {
            if (length >= TEXT) {
                return false;
            }
            text[length] = (byte) sign;
            length++;
            return true;
        }

        /** The LINE; null by a FAULT. THE TEXT is empty then. */
        Line readLine() {
            at = 0;
            stages = 0;
            deepest = 0;
            Pipe first = readList(0);
            if (first != null && at < length) {
                faultAt(at);
                first = null;
            }
            length = 0;
            return first == null ? null : new Line(first, sizeOf(first), stages, deepest);
        }

        private static int sizeOf(Pipe first) {
            int size = 0;
            for (Pipe p = first; p != null; p = p.next) {
                size++;
            }
            return size;
        }

        private Pipe readList(int depth) {
            Pipe first = readPipe(depth);
            Pipe latest = first;
            for (int i = 0; i < TEXT && latest != null && isJoin(peek()); i++) {
                int join = peek();
                at++;
                Pipe behind = readPipe(depth);
                if (behind == null) {
                    return null;
                }
                behind.join = join;
                latest.next = behind;
                latest = behind;
            }
            return first;
        }

        private Pipe readPipe(int depth) {
            Stage first = peek() == '{' ? readBraces(depth) : readCommand(true);
            if (first == null) {
                return null;
            }
            Pipe pipe = new Pipe(first);
            for (int i = 1; i < STAGES && takes('|'); i++) {
                Stage stage = readCommand(false);
                if (stage == null) {
                    return null;
                }
                pipe.stages[i] = stage;
                pipe.size = i + 1;
            }
            return pipe;
        }

        private Stage readBraces(int depth) {
            if (depth >= BRACES_DEEP) {
                faultAt(at);
                return null;
            }
            at++;
            stages++;
            deepest = Math.max(deepest, depth + 1);
            Stage stage = new Stage(Word.BRACES);
            stage.inner = readList(depth + 1);
            return stage.inner != null && takesOrFaults('}') ? stage : null;
        }

        private Stage readCommand(boolean first) {
            Word word = readWord(first);
            if (word == null) {
                return null;
            }
            stages++;
            Stage stage = new Stage(word);
            for (int i = 0; i < word.most && i < TERMS; i++) {
                if (i >= word.least && peek() != ' ') {
                    return stage;
                }
                if (!takesOrFaults(' ')) {
                    return null;
                }
                stage.terms[i] = word == Word.SET ? readName() : readTerm();
                stage.termCount = i + 1;
                if (stage.terms[i] == NO_TERM) {
                    return null;
                }
            }
            return stage;
        }

        private Word readWord(boolean first) {
            int end = at;
            for (int i = at; i < length && isLetter(text[i]); i++) {
                end = i + 1;
            }
            Word word = wordAt(end);
            if (word == null || !first && word.function >= 0) {
                faultAt(at);
                return null;
            }
            at = end;
            return word;
        }

        /** The WORD that stands from here to an end. */
        private Word wordAt(int end) {
            for (int w = 0; w < words.length; w++) {
                String spelled = words[w].text;
                boolean same = spelled.length() == end - at;
                for (int i = 0; same && i < spelled.length() && at + i < length; i++) {
                    same = text[at + i] == spelled.charAt(i);
                }
                if (same) {
                    return words[w];
                }
            }
            return null;
        }

        private int readTerm() {
            if (takes('$')) {
                return takes('p') ? PARAMETER : readName();
            }
            int n = NO_TERM;
            for (int i = 0; i < DIGITS && isDigit(peek()); i++) {
                n = Math.max(n, 0) * 10 + peek() - '0';
                at++;
            }
            if (n == NO_TERM) {
                faultAt(at);
            }
            return n;
        }

        private int readName() {
            int name = peek() - 'a';
            if (!isName(name)) {
                faultAt(at);
                return NO_TERM;
            }
            at++;
            return -1 - name;
        }

        /** The byte that is next; -1: the end of THE TEXT. */
        private int peek() {
            return at < length && at < TEXT ? text[at] : -1;
        }

        private boolean takes(int sign) {
            if (peek() != sign) {
                return false;
            }
            at++;
            return true;
        }

        private boolean takesOrFaults(int sign) {
            return takes(sign) || faultAt(at);
        }

        private boolean faultAt(int place) {
            fault = place;
            return false;
        }

        private static boolean isJoin(int sign) {
            return sign == ';' || sign == '&' || sign == '/';
        }

        private static boolean isLetter(int sign) {
            return sign >= 'a' && sign <= 'z';
        }

        private static boolean isDigit(int sign) {
            return sign >= '0' && sign <= '9';
        }
    }

    /** What was WRITTEN: 60 numbers at most, others are left out. */
    private static final class Numbers {
        private final int[] items = new int[WRITTEN];
        int size;

        void add(long number) {
            if (size < WRITTEN) {
                items[size] = (int) number;
                size++;
            }
        }

        /** The number at a place; NO: there is none. */
        long at(int place) {
            return place >= 0 && place < size ? items[place] : NO;
        }

        long sum() {
            long sum = 0;
            for (int i = 0; i < size; i++) {
                sum += items[i];
            }
            return sum;
        }

        boolean isLike(Numbers other) {
            boolean same = size == other.size;
            for (int i = 0; same && i < size; i++) {
                same = items[i] == other.items[i];
            }
            return same;
        }

        void copyFrom(Numbers other) {
            System.arraycopy(other.items, 0, items, 0, other.size);
            size = other.size;
        }
    }

    /** Rows of two numbers each, told by hand. */
    private static final class Rows {
        final int[] left;
        final int[] right;
        int size;

        Rows(int most) {
            left = new int[most];
            right = new int[most];
        }

        /** How many there are then; FULL. */
        int add(int first, int second) {
            if (size >= left.length) {
                return FULL;
            }
            left[size] = first;
            right[size] = second;
            size++;
            return size;
        }

        int clear() {
            size = 0;
            return 0;
        }

        void copyFrom(Rows other) {
            System.arraycopy(other.left, 0, left, 0, other.size);
            System.arraycopy(other.right, 0, right, 0, other.size);
            size = other.size;
        }
    }

    /** What THE IMAGE keeps: all that a RUN looks at or changes, and what is told by hand. */
    private static final class Kept {
        final int[] values = new int[NAMES];
        final int[] functions = new int[FUNCTIONS];
        int trap = ABSENT;
        final Numbers out = new Numbers();
        int status;
        int reads;
        final Rows seen = new Rows(SEEN);
        final Rows plan = new Rows(PLAN);
        final Rows book = new Rows(BOOK);

        Kept() {
            for (int f = 0; f < FUNCTIONS; f++) {
                functions[f] = ABSENT;
            }
        }

        void copyFrom(Kept other) {
            System.arraycopy(other.values, 0, values, 0, NAMES);
            System.arraycopy(other.functions, 0, functions, 0, FUNCTIONS);
            trap = other.trap;
            out.copyFrom(other.out);
            status = other.status;
            reads = other.reads;
            seen.copyFrom(other.seen);
            plan.copyFrom(other.plan);
            book.copyFrom(other.book);
        }
    }

    /** A LIST that goes: how far it came, and the PIPE in it that began, STAGE by STAGE. */
    private static final class Frame {
        /** The first PIPE that it has not got to. */
        Pipe rest;
        /** The PIPE that began and is not over. */
        Pipe pipe;
        int status;
        int parameter;
        /** How many FUNCTIONS are going. */
        int going;
        /** The numbers that the STAGES worked out, TERMS of them each. */
        final int[] worked = new int[STAGES * TERMS];
        /** How many numbers a STAGE gave; of sum: what came, together; of set: the last that came. */
        final int[] tally = new int[STAGES];
        final boolean[] over = new boolean[STAGES];
        /** The STATUS of the PIPE if a STAGE is its last one. */
        final int[] statuses = new int[STAGES];
        /** Whether the LIST of the first STAGE went, and what it WROTE. */
        boolean innerWent;
        final Numbers wrote = new Numbers();

        void open(Pipe first, int parameter, int going) {
            rest = first;
            pipe = null;
            status = 0;
            this.parameter = parameter;
            this.going = going;
        }

        /** The LIST gets to its next PIPE: whether that one may begin by STATUS of the one ahead. */
        boolean getsTo(Pipe behind) {
            rest = behind.next;
            return behind.join == ';' || (behind.join == '&') == (status == 0);
        }
    }

    /** Holds the LINES and goes through their LISTS. Its frames are made once, for RUNS are asked for often. */
    private static final class Machine {
        final Line[] lines = new Line[LINES];
        int lineCount;
        private final Frame[] frames = new Frame[LEVELS];
        int fuel;
        private int reads;

        Machine() {
            for (int i = 0; i < LEVELS; i++) {
                frames[i] = new Frame();
            }
        }

        /** The number that a LINE gets; FULL. */
        int add(Line line) {
            if (lineCount >= LINES) {
                return FULL;
            }
            lines[lineCount] = line;
            lineCount++;
            return lineCount - 1;
        }

        /** A RUN of a LINE. */
        void runLine(Kept in, int line) {
            fuel = FUEL;
            reads = 0;
            in.out.size = 0;
            in.status = goList(in, firstOf(line), 0, 0, 0, in.out);
            if (in.status != 0 && in.trap != ABSENT) {
                goList(in, firstOf(in.trap), 0, 0, 0, in.out);
            }
            in.reads = reads;
        }

        /** The first PIPE of a LINE; null: there is no such LINE. */
        Pipe firstOf(int line) {
            return line >= 0 && line < lineCount ? lines[line].first : null;
        }

        /** A LIST GOES at a level; what it WRITES comes to numbers: STATUS of it. */
        private int goList(Kept in, Pipe first, int parameter, int going, int level, Numbers to) {
            Frame f = frames[level];
            f.open(first, parameter, going);
            for (int i = 0; i < MILLION; i++) {
                long x = goOn(in, f, level);
                if (x == NO) {
                    return f.status;
                }
                to.add(x);
            }
            return f.status;
        }

        /** A LIST goes on till a number is WRITTEN: that; NO: the LIST is over. */
        long goOn(Kept in, Frame f, int level) {
            // Each round ends a PIPE or passes one by, and a LIST has fewer of them than its text has bytes.
            for (int i = 0; i <= TEXT; i++) {
                if (f.pipe == null) {
                    if (f.rest == null) {
                        return NO;
                    }
                    beginNext(in, f, f.rest);
                }
                if (f.pipe != null) {
                    long x = nextOf(in, f, level);
                    if (x != NO) {
                        return x;
                    }
                    f.status = f.statuses[f.pipe.size - 1];
                    f.pipe = null;
                }
            }
            return NO;
        }

        /** A PIPE begins, if STATUS ahead lets it and there is FUEL. */
        private void beginNext(Kept in, Frame f, Pipe pipe) {
            if (!f.getsTo(pipe)) {
                return;
            }
            if (fuel <= 0) {
                f.status = NO_FUEL;
                return;
            }
            fuel--;
            f.pipe = pipe;
            f.innerWent = false;
            for (int s = 0; s < pipe.size; s++) {
                Stage stage = pipe.stages[s];
                for (int i = 0; i < stage.termCount; i++) {
                    f.worked[s * TERMS + i] = worth(in, f, stage.terms[i]);
                }
                f.tally[s] = 0;
                f.over[s] = false;
                f.statuses[s] = statusAtFirst(stage.word, f.worked[s * TERMS]);
            }
        }

        private static int worth(Kept in, Frame f, int term) {
            if (term >= 0) {
                return term;
            }
            int name = -1 - term;
            return isName(name) ? in.values[name] : f.parameter;
        }

        /** STATUS of a PIPE with such a last STAGE, if nothing comes to it that makes it another. */
        private static int statusAtFirst(Word word, int n) {
            switch (word) {
                case FAIL:
                    return n;
                case MOD:
                    return n == 0 ? BY_NOTHING : 0;
                case SET:
                    return 1;
                default:
                    return 0;
            }
        }

        /**
         * The NEXT of the last STAGE. It is the place asked that moves along the PIPE, and not one call in
         * another, so that calls stand open for levels of LISTS alone.
         */
        private long nextOf(Kept in, Frame f, int level) {
            int last = f.pipe.size - 1;
            int s = last;
            long x = asked(in, f, s, level);
            for (int i = 0; i < MILLION; i++) {
                if (x == ASKS) {
                    s--;
                    x = s < 0 ? NO : asked(in, f, s, level);
                } else if (s == last) {
                    return x;
                } else {
                    s++;
                    x = got(in, f, s, x);
                }
            }
            return NO;
        }

        /** What a STAGE answers as it is asked: a number, NO for END, or ASKS. */
        private long asked(Kept in, Frame f, int s, int level) {
            if (f.over[s]) {
                return NO;
            }
            Stage stage = f.pipe.stages[s];
            if (stage.hasList() && !f.innerWent) {
                f.innerWent = true;
                f.wrote.size = 0;
                f.statuses[s] = goInner(in, f, s, level + 1);
            }
            int given = f.tally[s];
            int n = f.worked[s * TERMS];
            switch (stage.word) {
                case ECHO:
                    return given < stage.termCount ? gives(f, s, f.worked[s * TERMS + given]) : end(f, s);
                case SEQ:
                    return given < Math.min(n, SEQ_MOST) ? gives(f, s, given + 1) : end(f, s);
                case BRACES:
                case F:
                case G:
                case H:
                    return given < f.wrote.size ? gives(f, s, f.wrote.at(given)) : end(f, s);
                case OK:
                case FAIL:
                    return end(f, s);
                case MOD:
                    return n == 0 ? end(f, s) : ASKS;
                case TAKE:
                    return given < n ? ASKS : end(f, s);
                default:
                    return ASKS;
            }
        }

        /** What a STAGE answers to what came from ahead (NO: END): as if it were asked. */
        private long got(Kept in, Frame f, int s, long x) {
            if (x == NO) {
                return gotEnd(in, f, s);
            }
            reads++;
            int v = (int) x;
            int n = f.worked[s * TERMS];
            switch (f.pipe.stages[s].word) {
                case ADD:
                    return v + n;
                case MUL:
                    return v * n;
                case MOD:
                    return n == 0 ? end(f, s) : v % n;
                case KEEP:
                    return (n == 0 ? v == 0 : v % n == 0) ? v : ASKS;
                case TAKE:
                    return gives(f, s, v);
                case SUM:
                    f.tally[s] += v;
                    return ASKS;
                case SET:
                    f.tally[s] = v;
                    f.statuses[s] = 0;
                    return ASKS;
                default:
                    return end(f, s);
            }
        }

        private static long gotEnd(Kept in, Frame f, int s) {
            Stage stage = f.pipe.stages[s];
            f.over[s] = true;
            if (stage.word == Word.SUM) {
                return f.tally[s];
            }
            int name = -1 - stage.terms[0];
            if (stage.word == Word.SET && f.statuses[s] == 0 && isName(name)) {
                in.values[name] = f.tally[s];
            }
            return NO;
        }

        private static long gives(Frame f, int s, long x) {
            f.tally[s]++;
            return x;
        }

        private static long end(Frame f, int s) {
            f.over[s] = true;
            return NO;
        }

        /** The LIST of a STAGE GOES, one level deeper: STATUS of it. */
        private int goInner(Kept in, Frame f, int s, int level) {
            Stage stage = f.pipe.stages[s];
            int function = stage.word.function;
            boolean called = isFunction(function);
            Pipe first = called ? firstOf(in.functions[function]) : stage.inner;
            int going = called ? f.going + 1 : f.going;
            if (first == null) {
                return 1;
            }
            if (going > GOING || level >= LEVELS) {
                return TOO_DEEP;
            }
            int parameter = called ? f.worked[s * TERMS] : f.parameter;
            return goList(in, first, parameter, going, level, f.wrote);
        }
    }

    /** A row of items of one sort, all held as longs; it is made once and used again. */
    private static final class Tape {
        static final int BOOLEANS = 4, MOST = 60;

        /** -1: it holds nothing. */
        int sort = -1;
        int size;
        final long[] items = new long[MOST];

        int become(int sort, int size) {
            this.sort = sort;
            this.size = size;
            for (int i = 0; i < MOST; i++) {
                items[i] = 0;
            }
            return 1;
        }

        /** What an item holds of a number. */
        long held(long v) {
            switch (sort) {
                case 0:
                    return (byte) v;
                case 1:
                    return (short) v;
                case INTS:
                    return (int) v;
                case BOOLEANS:
                    return v != 0 ? 1 : 0;
                default:
                    return v;
            }
        }

        /** Whether there are n items from a place on; subtracted, not added, for n may be near the largest int. */
        boolean has(int from, int n) {
            return from >= 0 && n >= 0 && from <= size && n <= size - from;
        }
    }
}
