import java.lang.management.ManagementFactory;
import java.lang.management.ThreadMXBean;

/** All calls of one run live in one room: what an object and 512 of its dearest calls make has to stay small. */
public final class RoomTest {
    private static final int CALLS = 512;
    /** Some 7.3 million fields and elements are all the room; an eighth of it, at 8 bytes each, is plenty for one. */
    private static final long MOST_BYTES = 7_300_000L;

    private static LostSheets full() {
        LostSheets x = new LostSheets();
        for (int i = 0; i < 6; i++) {
            x.drawer(6, i, i);
        }
        for (char sign : "turn 1 m>3|s<4;back 2 k=6;know 9".toCharArray()) {
            x.feed(sign);
        }
        x.office();
        for (int i = 0; i < 5; i++) {
            x.see(i, 12, 3);
        }
        for (int i = 0; i < 10; i++) {
            x.plan(0, 0);
        }
        return x;
    }

    private static long dearCall(LostSheets x, int i) {
        switch (i % 12) {
            case 0: return x.best(12, 0);
            case 1: return x.best(12, 15);
            case 2: return x.told(4);
            case 3: return x.told(30);
            case 4: return x.of(5, 11);
            case 5: return x.can(5, 0);
            case 6: return x.odds(5, 20, 0);
            case 7: return x.ends(0);
            case 8: return x.image();
            case 9: return x.undo();
            case 10: return x.tape(0, 3, 60);
            default: return x.act(5, 2, 1);
        }
    }

    public static void main(String[] args) {
        ThreadMXBean threads = ManagementFactory.getThreadMXBean();
        if (!(threads instanceof com.sun.management.ThreadMXBean counting)
                || !counting.isThreadAllocatedMemorySupported()) {
            System.out.println("this machine does not tell what a thread makes");
            return;
        }
        long thread = Thread.currentThread().getId();
        full();
        long ahead = counting.getThreadAllocatedBytes(thread);
        LostSheets x = full();
        long answers = 0;
        for (int i = 50; i < CALLS; i++) {
            answers += dearCall(x, i);
        }
        long made = counting.getThreadAllocatedBytes(thread) - ahead;
        System.out.println(made + " bytes are made by an object and its calls (" + answers + ")");
        if (made > MOST_BYTES) {
            System.out.println("that is too much, at most " + MOST_BYTES);
            System.exit(1);
        }
    }
}
