import com.sun.management.ThreadMXBean;
import java.lang.management.ManagementFactory;

/** All calls of a run live in one room: an object makes its rows once, and its dearest runs stay small. */
public final class RoomTest {
    private static final Checks checks = new Checks();
    private static final ThreadMXBean THREADS = (ThreadMXBean) ManagementFactory.getThreadMXBean();

    public static void main(String[] args) {
        // the first rounds load classes, which takes room of its own
        for (int round = 0; round < 3; round++) {
            oneRun();
        }
        long bytes = oneRun();
        System.out.println("512 calls took " + bytes + " bytes");
        checks.holds("room of 512 calls by all rules", bytes < 600_000);
        long again = digests();
        System.out.println("200 digests took " + again + " bytes");
        checks.holds("calls that are repeated take no room", again < 10_000);
        checks.end();
    }

    private static long used() {
        return THREADS.getThreadAllocatedBytes(Thread.currentThread().getId());
    }

    private static long oneRun() {
        long before = used();
        CairnGame game = new CairnGame();
        game.addHeap(12);
        int calls = 2;
        int step = 0;
        while (calls < 508) {
            step++;
            game.setGreatestTake(1 + step % 5);
            game.digest();
            game.turnMerging();
            calls += 3;
            if (step % 2 == 0) {
                game.turnSplitting();
                calls++;
            }
        }
        return used() - before;
    }

    private static long digests() {
        CairnGame game = new CairnGame();
        game.addHeap(12);
        game.digest();
        long before = used();
        for (int call = 0; call < 200; call++) {
            game.digest();
            game.bestReply();
        }
        return used() - before;
    }
}
