import com.sun.management.ThreadMXBean;
import java.lang.management.ManagementFactory;

/** The dearest calls make nothing, so that 512 of them fit into the room of a run. */
final class RoomTests {
    private static final int CALLS = 300;
    private static final long MOST_BYTES = 100_000;
    private static final String FULL = "land 9 by 7;law 1;kite a at 4 3 size 2 string 9;kite b at 0 0 veers 1;kite d at 8 6 veers 4;"
            + "kite e at 4 4 size 2 string 1;kite f at 3 2 veers 3;kite g at 5 5 size 2 veers 6;crop p at 4 3 wants 99;"
            + "crop q at 1 1 wants 99;tenant t at 0 0 of a;tenant u at 8 6 of b;tenant v at 0 6 of d;tenant w at 8 0 of e;";

    private RoomTests() {
    }

    private static long used(Runnable call) {
        ThreadMXBean bean = (ThreadMXBean) ManagementFactory.getThreadMXBean();
        long thread = Thread.currentThread().getId();
        call.run();
        long before = bean.getThreadAllocatedBytes(thread);
        for (int i = 0; i < CALLS; i++) {
            call.run();
        }
        return bean.getThreadAllocatedBytes(thread) - before;
    }

    private static void isSmall(String what, Runnable call) {
        long bytes = used(call);
        Checks.due(what + " made " + bytes + " bytes, more than may be", bytes > MOST_BYTES, false);
    }

    static void callsMakeNothing() {
        KiteLand x = Checks.land(FULL);
        Checks.seasons(x, "loop 99;hour 3;any a;any b;end;");
        Checks.tray(x, 0, 0, 33, 34, 35, 43, 44, 45);
        isSmall("mean", () -> x.mean(0, 0, 2));
        isSmall("fly", () -> x.fly(0, 8, 6, 3));
        isSmall("duel", () -> x.duel(0, 1, 3));
        isSmall("ripe", () -> x.ripe(0));
        isSmall("plant", () -> x.plant(99));
        isSmall("settle", () -> x.settle(9));
        isSmall("cover", () -> x.cover(0, 6, 0));
        isSmall("telling", () -> x.telling());
        isSmall("purseIn", () -> x.purseIn(0, 99));
        isSmall("mark and undo", () -> {
            x.mark();
            x.undo();
        });
        isSmall("tray", () -> x.tray(1, 0, 60));
        isSmall("live", () -> x.live(0));
        isSmall("hour", () -> x.hour(1));
        isSmall("a county without bytes", () -> x.county(0));
    }

    /** Many objects in one thread do not hold on to each other. */
    static void anObjectIsSmall() {
        long bytes = used(() -> new KiteLand().told(0));
        Checks.due("bytes of an object: " + bytes / CALLS, bytes / CALLS > 60_000, false);
    }
}
