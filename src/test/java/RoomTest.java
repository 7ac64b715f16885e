import java.lang.management.ManagementFactory;

/** All calls of a run live in one room: an object is small, and its calls make nothing. */
public final class RoomTest {
    private static final com.sun.management.ThreadMXBean THREADS =
        (com.sun.management.ThreadMXBean) ManagementFactory.getThreadMXBean();

    private static long made() {
        return THREADS.getThreadAllocatedBytes(Thread.currentThread().getId());
    }

    private static long callAll(PoorTurns x, int i) {
        long sum = x.house(i % 8, i % 1000, i % 2) + x.gave(i % 8, i / 8 % 8, i % 1000) + x.map(76543210, i % 8)
            + x.kin(i % 8, i / 8 % 8, i % 3 == 0) + x.say(33 + i % 94) + x.fault() + x.judge(0) + x.wipe()
            + x.say('.') + x.judge(i % 3) + x.behind(i % 8, i % 3) + x.parish(i % 5) + x.first(i % 2) + x.done()
            + x.due(i % 8) + x.even(i % 2) + x.orders(i % 2) + x.ring(999, 99, i % 999) + x.count(i % 256, i % 9)
            + x.ever(i % 256) + x.ask(i % 2) + x.forget() + x.crumbs(i % 1000, i * 7 % 1000, i % 2)
            + x.lots(12, i % 13, i % 2, i / 2 % 2) + x.century(i % 10000, 99, i % 3) + x.image(i % 2)
            + x.restore(i % 2) + x.told(i % 180);
        return sum;
    }

    public static void main(String[] args) {
        Due due = new Due();
        long sum = callAll(new PoorTurns(), 1);
        made();
        long forObjects = 0;
        long forCalls = 0;
        for (int round = 0; round < 30; round++) {
            long before = made();
            PoorTurns x = new PoorTurns();
            forObjects = Math.max(forObjects, made() - before);
            before = made();
            // 18 times 28 calls: an object is promised for 512.
            for (int i = 0; i < 18; i++) {
                sum += callAll(x, 18 * round + i);
            }
            forCalls = Math.max(forCalls, made() - before);
        }
        System.out.println("an object " + forObjects + " bytes, its calls " + forCalls + " (" + sum + ")");
        due.holds("an object is small", forObjects < 40000);
        due.holds("calls make nothing", forCalls < 4096);
        due.end();
    }
}
