import java.lang.management.ManagementFactory;

/** All calls of one run live in one room: behind the constructor the calls make no objects. */
public final class CostTest {
    private static final Check check = new Check();

    public static void main(String[] args) {
        HomeRings x = dense();
        callAll(x);
        com.sun.management.ThreadMXBean threads =
            (com.sun.management.ThreadMXBean) ManagementFactory.getThreadMXBean();
        long id = Thread.currentThread().getId();
        threads.getThreadAllocatedBytes(id);
        long bytes = threads.getThreadAllocatedBytes(id);
        for (int i = 0; i < 100; i++) {
            callAll(x);
        }
        long made = threads.getThreadAllocatedBytes(id) - bytes;
        check.due("100 rounds make objects (" + made + " bytes)", made > 4096, false);
        bytes = threads.getThreadAllocatedBytes(id);
        new HomeRings();
        made = threads.getThreadAllocatedBytes(id) - bytes;
        check.due("a new object is large (" + made + " bytes)", made > 100000, false);
        check.end("CostTest");
    }

    private static HomeRings dense() {
        HomeRings x = Check.farms(10);
        for (int f = 0; f < 10; f++) {
            for (int i = 1; i < 10; i++) {
                x.wish(f, (f + 3 * i) % 10);
            }
        }
        x.set(2, 500);
        return x;
    }

    private static void callAll(HomeRings x) {
        x.best();
        x.count(5);
        x.mend();
        x.trade();
        x.blocks();
        x.ring(3);
        x.wrong();
        x.book();
        x.chain(3);
        x.travel();
        x.undo();
        for (int f = 0; f < 10; f++) {
            x.put(f, -1);
            x.of(f, 7);
        }
        x.chain(7);
    }
}
