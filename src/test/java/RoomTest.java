import java.lang.management.ManagementFactory;

/** One room for all calls: whatever is called, nothing is made after the constructor. */
public final class RoomTest {
    public static void main(String[] args) {
        Due due = new Due("RoomTest");
        com.sun.management.ThreadMXBean threads = (com.sun.management.ThreadMXBean) ManagementFactory.getThreadMXBean();
        long id = Thread.currentThread().getId();
        ViewBroadcast x = Net.of(16);
        play(x);
        long before = threads.getThreadAllocatedBytes(id);
        long between = threads.getThreadAllocatedBytes(id);
        play(x);
        long after = threads.getThreadAllocatedBytes(id);
        due.due("bytes made by calls", Math.max(0, after - between - (between - before)), 0);
        due.end();
    }

    private static void play(ViewBroadcast x) {
        for (int i = 0; i < 200; i++) {
            x.join(i % 16, i * 7 % 15);
            x.go(2000);
            x.mix(i % 16);
            x.tale(i % 16);
            x.go(3);
            x.tick();
            x.keep(i % 2);
            x.back(i % 2);
            x.differs(0);
            x.reach(3);
            x.even();
        }
    }
}
