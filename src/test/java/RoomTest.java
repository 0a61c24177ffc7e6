import com.sun.management.ThreadMXBean;
import java.lang.management.ManagementFactory;

/** What an object and its calls take of the room that all calls of a run share. */
public final class RoomTest {
    private static final Due due = new Due("RoomTest");
    private static final ThreadMXBean threads = (ThreadMXBean) ManagementFactory.getThreadMXBean();

    public static void main(String[] args) {
        // The first object of all also loads the classes, which does not count.
        due.is("a first object", new BoneSteps().count(0), 0);
        used();
        long start = used();
        BoneSteps x = new BoneSteps();
        long made = used() - start;
        due.is("an object takes at most 20000 bytes, not " + made, made <= 20000 ? 1 : 0, 1);
        fill(x);
        long before = used();
        for (int n = 0; n < 24; n++) {
            dearCalls(x, 21 * n);
        }
        long more = used() - before;
        due.is("dear calls take nothing, not " + more, more <= 512 ? 1 : 0, 1);
        due.end();
    }

    /** As full as it gets: 220 calls, and each round of dear calls is 12 more, all within 512. */
    private static void fill(BoneSteps x) {
        for (int b = 0; b < 10; b++) {
            x.bone(b % 5 - 1, 1 + b, 0, 35);
        }
        for (int n = 0; n < 180; n++) {
            if (n % 6 == 0) {
                x.turn(n / 6 % 10, n % 36);
            }
            x.frame(n % 6);
        }
    }

    private static void dearCalls(BoneSteps x, int n) {
        x.join(n % 101);
        x.walk(n % 6, n % 30, (n + 1) % 6, n % 7);
        x.live();
        x.isLive(n % 6, n % 30);
        x.pack(n % 6, n % 19);
        x.two(9, n * 1000000L, 5);
        x.rounds(4, n * 1000000L, 5, 20);
        x.sheet(n % 4, n % 3, 60);
        x.pose(n % 4, 3);
        x.write(n % 4, 3);
        x.copy(0, 0, 0, 1, 20);
        x.digest();
    }

    private static long used() {
        return threads.getThreadAllocatedBytes(Thread.currentThread().getId());
    }
}
