import java.lang.management.ManagementFactory;

/** What an object and its dearest calls make counts in a room that is never emptied, and each call ends soon. */
public final class RoomTest {
    private static final int CALLS = 512;
    private static final Check C = new Check("RoomTest");
    private static final com.sun.management.ThreadMXBean THREADS =
            (com.sun.management.ThreadMXBean) ManagementFactory.getThreadMXBean();

    public static void main(String[] args) {
        object();
        calls();
        texts();
        C.end();
    }

    private static long made() {
        return THREADS.getThreadAllocatedBytes(Thread.currentThread().getId());
    }

    private static void object() {
        new ShellLines();
        long before = made();
        ShellLines x = new ShellLines();
        long bytes = made() - before;
        C.due("an object of " + bytes + " bytes is small", bytes < 64 * 1024 && x.count(0) == 0 ? 1 : 0, 1);
    }

    private static ShellLines dear() {
        ShellLines x = Check.with("seq 99|add 1|add 1|add 1|add 1|sum;seq 99|add 1|add 1|add 1|add 1|sum",
                "{{{g 1;g 1;g 1;g 1;g 1;g 1;g 1;g 1;g 1;g 1;g 1;g 1;g 1;g 1;g 1;g 1;g 1;g 1;g 1;g 1;fail 1}}}", "f 1;{f 1}");
        x.define(0, 2);
        x.define(1, 0);
        x.trap(2);
        x.image();
        for (int i = 0; i < 10; i++) {
            x.plan(0, 1);
        }
        return x;
    }

    private static void calls() {
        ShellLines x = dear();
        long before = made();
        long start = System.nanoTime();
        for (int i = 0; i < CALLS; i++) {
            x.fits(1, 0, 0);
            x.odds(1, 0, 0);
            x.ends(0);
            x.alike(1, 2);
            x.mean(1, 0);
            x.on(1, 0);
            x.run(1);
            x.job(1);
            x.turn(0);
            x.stop(0);
            x.tape(0, 2, 60);
            x.judge(0, 0);
            x.image();
            x.undo();
        }
        long bytes = made() - before;
        long seconds = (System.nanoTime() - start) / 1000000000L;
        C.due("the dearest calls made " + bytes + " bytes", bytes < 16 * 1024 ? 1 : 0, 1);
        C.due("the dearest calls took " + seconds + " s", seconds < 120 ? 1 : 0, 1);
    }

    /** Texts that are no LINES: as many as their bytes' calls leave. */
    private static void texts() {
        ShellLines x = new ShellLines();
        Check.line(x, "{{{ok");
        long before = made();
        for (int i = 0; i < CALLS / 6; i++) {
            Check.line(x, "{{{ok");
        }
        long bytes = made() - before;
        C.due("texts with a FAULT made " + bytes + " bytes", bytes < 128 * 1024 ? 1 : 0, 1);
    }
}
