import com.sun.management.ThreadMXBean;
import java.lang.management.ManagementFactory;

/** All calls of a run share one room: after an object is made, its calls make nothing more. */
final class RoomTest {
    private static final long FREE = 16 * 1024;
    private static int sum = 0;

    private static void allCalls(RoseLathe x, int n) {
        for (int i = 0; i < n; i++) {
            sum += x.rosette(i % 4, 24) + x.lift(i % 4, i % 24, 3) + x.at(0, 1) + x.about(i % 4, 1);
            sum += x.name(1, i % 4) + x.alike(2, 3) + x.setting(i % 4, 2, 100, 5, i % 24, 3) + x.told(4);
            sum += x.slip(i % 12, i % 25) + x.place(11, i) + x.closes() + x.thin(12, 9) + x.wall(12);
            sum += x.meets(3, i, 5, 7) + x.overlaid(12, 0, 1, 2, 3, 4, 5) + x.print(1 + i % 12);
            sum += x.see(i % 12, 5, 77) + x.makers() + x.maker(i, 2) + x.off() + x.shown() + x.count(0);
            sum += x.lift(9, 9, 9) + x.maker(-1, 0) + x.setting(0, 0, 0, 0, 0, 0) + x.place(99, 0);
        }
    }

    public static void main(String[] args) {
        Check check = new Check();
        check.about("the room");
        ThreadMXBean threads = (ThreadMXBean) ManagementFactory.getThreadMXBean();
        RoseLathe x = new RoseLathe();
        allCalls(x, 24);
        long before = threads.getCurrentThreadAllocatedBytes();
        allCalls(x, 512);
        long made = threads.getCurrentThreadAllocatedBytes() - before;
        check.holds("512 rounds of all calls make nothing (they made " + made + " bytes)", made <= FREE);
        check.holds("the calls were made", sum != 0);
        check.end("RoomTest");
    }
}
