import java.lang.management.ManagementFactory;

/** Calls make no objects: what an object needs is made with it, so that a long run stays in its room. */
public final class RoomTest {
    private static final int CALLS = 440, CALLS_AT_ONCE = 22, ROUNDS = 40;
    private static final com.sun.management.ThreadMXBean THREADS =
        (com.sun.management.ThreadMXBean) ManagementFactory.getThreadMXBean();

    public static void main(String[] args) {
        // The first round loads classes and the like.
        round(filled());
        long least = Long.MAX_VALUE;
        long madeFor = Long.MAX_VALUE;
        for (int i = 0; i < ROUNDS; i++) {
            long ahead = made();
            LevelledInk x = filled();
            long before = made();
            madeFor = Math.min(madeFor, before - ahead);
            round(x);
            least = Math.min(least, made() - before);
        }
        Due.holds("bytes made by " + CALLS + " calls: " + least, least < 1024);
        Due.holds("bytes of an object: " + madeFor, madeFor < 32768);
        Due.end();
    }

    private static long made() {
        return THREADS.getThreadAllocatedBytes(Thread.currentThread().getId());
    }

    private static LevelledInk filled() {
        LevelledInk x = new LevelledInk();
        x.blank(0, 3, 24);
        for (int k = 0; k < 24; k++) {
            x.put(0, k, k % 3);
        }
        for (int r = 5; r < 30; r++) {
            x.row(r, 0);
        }
        return x;
    }

    private static long round(LevelledInk x) {
        long sum = 0;
        for (int i = 0; i < CALLS / CALLS_AT_ONCE; i++) {
            sum += x.best(i % 2) + x.found(i % 2) + x.tried(i % 2, 3) + x.sharp(0, 5) + x.profile(1, 3, 4);
            sum += x.run(9, 3) + x.stroke(0, 5) + x.many(3) + x.baseline(2) + x.foot(3) + x.curl(4);
            sum += x.mean() + x.rest() + x.slope() + x.level() + x.shear(0, 1) + x.back();
            sum += x.take(2, 6) + x.copy(0, 0, 2, 0, 4) + x.blank(1, 2, 32) + x.put(1, 1, 1) + x.get(1, 1);
        }
        return sum;
    }
}
