import com.sun.management.ThreadMXBean;
import java.lang.management.ManagementFactory;

/** What the dearest runs of 512 calls make stays far below the room that all calls of a run live in. */
public final class RoomTest {
    // 7.3 million fields and elements would be over 29 million bytes.
    private static final long ROOM = 29_000_000;
    private static final ThreadMXBean BEAN = (ThreadMXBean) ManagementFactory.getThreadMXBean();

    public static void main(String[] args) {
        Checks checks = new Checks();
        if (!BEAN.isThreadAllocatedMemorySupported()) {
            System.out.println("this machine doesn't count what is made");
            return;
        }
        long before = made();
        SolutionBoxes[] objects = new SolutionBoxes[256];
        for (int i = 0; i < objects.length; i++) {
            objects[i] = new SolutionBoxes(3);
            objects[i].run();
        }
        long bytes = made() - before;
        System.out.println("256 objects with a run() each: " + bytes + " bytes");
        checks.dueTrue("256 objects in one room", bytes < ROOM);

        SolutionBoxes x = objects[0];
        before = made();
        for (int calls = 0; calls < 505; calls += 5) {
            x.clear();
            x.term(0, calls + 1, 1, 9);
            x.take(0);
            x.run();
            x.free(0);
        }
        bytes = made() - before;
        System.out.println("some 512 calls on an object in use: " + bytes + " bytes");
        checks.dueTrue("calls that find rows made", bytes < 100_000);

        SolutionBoxes y = objects[1];
        before = made();
        for (int calls = 0; calls < 400; calls++) {
            y.term(1, 1, 1, calls % 10 + 16 * (calls / 10 % 10) + 256 * (calls / 100));
        }
        for (int calls = 0; calls < 12; calls++) {
            y.take(1);
            y.run();
        }
        bytes = made() - before;
        System.out.println("a polynomial of 400 powers taken 12 times: " + bytes + " bytes");
        checks.dueTrue("long polynomials", bytes < 1_000_000);
        checks.end();
    }

    private static long made() {
        return BEAN.getThreadAllocatedBytes(Thread.currentThread().getId());
    }
}
