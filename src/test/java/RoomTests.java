import java.lang.management.ManagementFactory;

/** All calls of a run live in one room and nothing is cleared away: 512 calls of a sort must make little. */
public final class RoomTests {
    private static final int CALLS = 512;
    /** A hundredth of the room of 7.3 million elements, at four bytes each. */
    private static final long MOST_BYTES = 300_000;
    private static final Due due = new Due();

    private interface Call {
        long ask(TenYards x, int i);
    }

    public static void main(String[] args) {
        look("air", (x, i) -> x.air(0));
        look("air, wrong", (x, i) -> x.air(2));
        look("row", (x, i) -> x.row(3, i % 3, 100));
        look("keep", (x, i) -> x.keep(4, i % 2, 0));
        look("exit", (x, i) -> x.exit(0, i % 3));
        look("bestLoad", (x, i) -> x.bestLoad(1, 0, 10, i % 3));
        look("order", (x, i) -> x.order(1, i, 0, 10, i % 2));
        look("cone", (x, i) -> x.cone(i % 8, 3000, 900));
        look("steering", (x, i) -> x.steering(i % 8, i, 0, 0));
        look("safe", (x, i) -> x.safe(i, 0, 0));
        look("stop", (x, i) -> x.stop(i % 8, 0, 0, 100, 20, i));
        look("two", (x, i) -> x.two(0, 1, 1 + i % 20, 0, 0));
        look("habits", (x, i) -> x.habits(100 * (i % 10) + i % 21, 0, 0, 0, 0, 99));
        look("crates", (x, i) -> x.crates(5, 0, 0, i));
        look("image", (x, i) -> x.image() + x.restore());
        due.end();
    }

    private static void look(String name, Call call) {
        long least = Long.MAX_VALUE;
        // The machine makes objects of its own at times, so the least of three runs counts.
        for (int run = 0; run < 3; run++) {
            least = Math.min(least, bytesMadeBy(call));
        }
        due.isTrue(name + " made " + least + " bytes", least <= MOST_BYTES);
    }

    private static long bytesMadeBy(Call call) {
        TenYards x = Due.with("f00 3;f10 5;f25 0;f39 9;f41 2;f53 1;f64 7;f71 0;g9;l0+20-30;");
        Due.write(x, 0, "l0+20-30;l1-20+30;g12;g12;g12;g12;g12;");
        Due.bytes(x, 1, 0, 2, 3, 4, 5);
        Due.write(x, 2, "l0+20-30;l1-20+30;g12;g99;");
        com.sun.management.ThreadMXBean threads = (com.sun.management.ThreadMXBean) ManagementFactory.getThreadMXBean();
        long before = threads.getThreadAllocatedBytes(Thread.currentThread().getId());
        for (int i = 0; i < CALLS; i++) {
            call.ask(x, i);
        }
        return threads.getThreadAllocatedBytes(Thread.currentThread().getId()) - before;
    }
}
