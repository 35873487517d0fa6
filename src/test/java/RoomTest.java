import java.lang.management.ManagementFactory;

/** All calls of a run live in one room: what is made in constructors is used again. */
public final class RoomTest {
    private static final int NEW_OBJECT = 120_000, LONG_RUN = 400_000;

    public static void main(String[] args) {
        play(new TwoKnobs());
        long before = allotted();
        TwoKnobs x = new TwoKnobs();
        long made = allotted() - before;
        before = allotted();
        play(x);
        long used = allotted() - before;
        System.out.println("RoomTest: bytes for a new object " + made + ", for its long run " + used);
        if (made > NEW_OBJECT || used > LONG_RUN) {
            System.out.println("RoomTest: more than " + NEW_OBJECT + " or " + LONG_RUN);
            System.exit(1);
        }
    }

    private static long allotted() {
        com.sun.management.ThreadMXBean threads = (com.sun.management.ThreadMXBean) ManagementFactory.getThreadMXBean();
        return threads.getThreadAllocatedBytes(Thread.currentThread().getId());
    }

    /** The dearest calls, each after what makes its answer stale. */
    private static void play(TwoKnobs x) {
        x.type(0, 0x7475726e392d393bL, 8);
        for (int i = 0; i < 5; i++) {
            x.corner(3 * i, i * i % 7);
        }
        for (int i = 0; i < 10; i++) {
            x.edge(i % 5, (i % 5 + 1 + i / 5) % 5, i > 6);
        }
        for (int i = 0; i < 40; i++) {
            x.see(i % 24, i / 24, 1);
            x.put(0, i % 10);
            x.put(7, i % 10);
            x.draws(0, 0);
            x.odds(0);
            x.shaken();
            x.trail(i % 10);
            if (x.bends() < 0) {
                throw new IllegalStateException("the net is to be one that bends tells of");
            }
            x.again();
            x.round(1 + i % 7, 1 + i % 6);
            x.image(i % 2);
            x.from(i % 2);
        }
        x.digest();
    }
}
