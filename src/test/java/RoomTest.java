import com.sun.management.ThreadMXBean;
import java.lang.management.ManagementFactory;
import java.util.function.IntConsumer;

/** What runs of 512 calls make, counted in bytes: all calls of a run live in one room. */
public final class RoomTest {
    // 7.3 million fields and elements of four bytes, and 600,000 heads of objects of sixteen.
    private static final long ROOM = 7_300_000L * 4;
    private static final ThreadMXBean THREADS = (ThreadMXBean) ManagementFactory.getThreadMXBean();
    private static DriverHost host;

    private RoomTest() {
    }

    public static void main(String[] args) {
        StringBuilder text = new StringBuilder("drivers 4;");
        while (text.length() < 880) {
            text.append(text.length() < 30 ? "command a pure time 1" : " set 1=reg 1+1");
        }
        String whole = text.append(';').toString();
        room("new objects", call -> host = new DriverHost());
        room("new objects and operations", call -> {
            host = call % 2 == 0 ? new DriverHost() : host;
            host.poke(0, 0, 1);
        });
        room("operations", call -> host.poke(0, 0, 1));
        room("texts", call -> {
            if (call % 46 == 45) {
                host.load(900);
            } else {
                host.feed(whole.charAt(call), call, 0x3b3b3b3b, 0x61206120, 0x28282828);
            }
        });
        room("short texts", call -> {
            if (call % 2 == 0) {
                host.feed(0x64726976, 0x65727320, 0x343b2020, 0x20202020, 0x20202020);
            } else {
                host.load(20);
            }
        });
        room("queries", call -> {
            if (call % 2 == 0) {
                host.feed(0x6d616e79, 0x20313d31, 0x20202020, 0x20202020, 0x20202020);
            } else {
                host.query(20);
            }
        });
        room("empty texts", call -> host.load(0));
        room("long runs", call -> {
            if (call == 0) {
                Check.load(host, whole);
            } else if (call < 101) {
                host.submit(call % 4, 0, call, 0, 1000);
            } else {
                host.run(1000);
            }
        });
        room("forecasts", call -> {
            if (call == 0) {
                Check.load(host, whole);
            } else if (call < 101) {
                host.submit(0, 0, call, 0, 0);
            } else {
                host.forecast(99);
                host.bestDelay(200);
            }
        });
        Check.close("RoomTest");
    }

    private static void room(String what, IntConsumer calls) {
        host = new DriverHost();
        long before = THREADS.getThreadAllocatedBytes(Thread.currentThread().getId());
        for (int call = 0; call < 512; call++) {
            calls.accept(call);
        }
        long made = THREADS.getThreadAllocatedBytes(Thread.currentThread().getId()) - before;
        System.out.println("  " + what + ": " + made / 1024 + " KiB");
        Check.due(what + " fit into half the room", true, () -> made < ROOM / 2);
    }
}
