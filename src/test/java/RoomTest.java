import java.lang.management.ManagementFactory;

/** All calls of a run live in one room: a full object stays small, and asking makes nothing. */
public final class RoomTest {
    private static final int TIMES = 2000;
    private static final long FULL_OBJECT = 16384;
    private static final Due due = new Due();
    private static long kept = 0;

    public static void main(String[] args) {
        com.sun.management.ThreadMXBean threads = (com.sun.management.ThreadMXBean) ManagementFactory.getThreadMXBean();
        // Once ahead, so that what the machine makes when it first meets the code is not counted.
        ask(full());
        long before = threads.getCurrentThreadAllocatedBytes();
        WaveWalk x = full();
        long made = threads.getCurrentThreadAllocatedBytes() - before;
        due.isTrue("a full object makes " + made + " bytes", made <= FULL_OBJECT);

        before = threads.getCurrentThreadAllocatedBytes();
        for (int i = 0; i < TIMES; i++) {
            ask(x);
        }
        long asked = threads.getCurrentThreadAllocatedBytes() - before;
        due.isTrue("asking makes " + asked + " bytes", asked < TIMES);
        due.isTrue("it was asked", kept != 0);
        due.end();
    }

    private static WaveWalk full() {
        WaveWalk x = new WaveWalk();
        for (int i = 0; i < 6; i++) {
            x.net(12, 2 + i % 3);
        }
        for (int i = 0; i < 12; i++) {
            x.walk(i % 6);
            x.set(i, 0, 0, 1);
        }
        return x;
    }

    private static void ask(WaveWalk x) {
        for (int walk = 0; walk < 12; walk++) {
            kept += x.arrives(walk, 1, 60) + x.returns(walk, 60) + x.best(walk, 60) + x.mean(walk, 0, 9);
            kept += x.step(walk, 9) + x.back(walk, 9) + x.share(walk, WaveWalk.NONE) + x.at(walk, 0, 0) + x.of(walk, 1);
            kept += x.set(walk, 0, 0, 1) ? 1 : 0;
            x.spread((walk + 6) % 12, 0);
            x.copy((walk + 6) % 12, walk);
        }
        for (int net = 0; net < 6; net++) {
            kept += x.alike(net, WaveWalk.NONE) + x.leads(net, 0, 0) + (x.mark(net, 0, true) ? 1 : 0);
        }
    }
}
