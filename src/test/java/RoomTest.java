import java.lang.management.ManagementFactory;

/** What the dearest runs of calls make stays far below the room that LANGUAGE.md and the page of work tell. */
public final class RoomTest {
    private static final int CALLS = 512;
    // the calls of fill() and a few more
    private static final int FILLING = 60;
    // 600,000 objects of at least 16 bytes each, and far below 7,300,000 elements of 4 bytes
    private static final long ROOM = 600_000L * 16;

    private static final com.sun.management.ThreadMXBean THREADS = (com.sun.management.ThreadMXBean) ManagementFactory.getThreadMXBean();

    public static void main(String[] args) {
        for (int run = 0; run < 4; run++) {
            // the first time the machine may make something of its own
            made(run);
            long bytes = made(run);
            System.out.println("run " + run + ": " + bytes + " bytes");
            Check.is("run " + run + " stays in half the room", bytes < ROOM / 2, true);
        }
        Check.end("RoomTest");
    }

    private static long made(int run) {
        long start = THREADS.getThreadAllocatedBytes(Thread.currentThread().getId());
        Foldback x = new Foldback();
        switch (run) {
            case 0 -> kills(x);
            case 1 -> typing(x);
            case 2 -> regions(x);
            default -> queries(x);
        }
        return THREADS.getThreadAllocatedBytes(Thread.currentThread().getId()) - start;
    }

    /** Runs of 24 commands, a kill of 20 characters and a yank of them by turns, with a tracked ring. */
    private static void kills(Foldback x) {
        fill(x);
        x.track(Foldback.RING);
        x.record(0);
        x.kill(20);
        x.yank();
        x.move(-20);
        x.stop();
        for (int i = 0; i < CALLS - FILLING; i++) {
            x.run(0, 8);
        }
    }

    private static void fill(Foldback x) {
        x.open();
        for (int i = 0; i < 20; i++) {
            x.insert('a');
        }
        x.move(-20);
        x.copy(0, 20);
        for (int i = 0; i < 18; i++) {
            x.paste(0);
        }
        x.close();
        for (int i = 0; i < 7; i++) {
            x.move(-50);
        }
    }

    private static void typing(Foldback x) {
        for (int i = 0; i < 400; i++) {
            x.insert('a');
        }
        for (int i = 400; i < CALLS; i++) {
            x.setMark(0, true);
        }
    }

    private static void regions(Foldback x) {
        fill(x);
        x.open();
        for (int i = 0; i < 4; i++) {
            x.delete(20);
            x.move(1);
        }
        x.close();
        for (int i = 0; i < (CALLS - FILLING) / 3; i++) {
            x.undoIn(0, x.length());
            x.undo();
        }
    }

    private static void queries(Foldback x) {
        fill(x);
        int node = x.now();
        for (int i = 0; i < (CALLS - FILLING) / 4; i++) {
            x.walk(i % 2 * node);
            x.charByReplay(node, i % 300);
            x.lineOf(x.length());
        }
    }
}
