import com.sun.management.ThreadMXBean;
import java.lang.management.ManagementFactory;

/** All calls of one run live in one room: what they make is counted in bytes, of which an element has one to eight. */
public final class RoomTest {
    private static final Check check = new Check("RoomTest");
    /** So few that an object keeps far from its 512 calls. */
    private static final int TIMES = 12;
    private static final ThreadMXBean memory = (ThreadMXBean) ManagementFactory.getThreadMXBean();

    public static void main(String[] args) {
        made(() -> new EventLog());
        check.same("a new object stays below 20,000 bytes", made(() -> new EventLog()) < 20_000, true);
        dearRun();
        mostLines();
        check.end();
    }

    private static long made(Check.Call call) {
        long id = Thread.currentThread().getId();
        long before = memory.getThreadAllocatedBytes(id);
        call.run();
        return memory.getThreadAllocatedBytes(id) - before;
    }

    private static void noneMade(String what, Check.Call call) {
        call.run();
        long bytes = made(() -> {
            for (int k = 0; k < TIMES; k++) {
                call.run();
            }
        });
        check.same(what + " makes nothing when it is called again", bytes < TIMES, true);
    }

    private static void dearRun() {
        EventLog x = new EventLog();
        Check.site(x, "{d} {t} {e0} {f6}");
        for (int k = 0; k < 24; k++) {
            Check.log(x, k % 4, 0, k, k * 100, "text", k % 32, -k);
        }
        for (int w = 0; w < 4; w++) {
            x.flush(w);
        }
        Check.search(x, "te");
        check.same("lines", x.open(), 24);
        noneMade("open", x::open);
        noneMade("length", () -> x.length(3));
        noneMade("letter", () -> x.letter(3, 2));
        noneMade("find", () -> x.find(0));
        noneMade("count", x::count);
        noneMade("distinct", () -> x.distinct(0));
        noneMade("site", () -> x.site());
        noneMade("rotate", x::rotate);
        noneMade("log and flush", () -> {
            x.arg(1);
            x.type(5, 1);
            x.text();
            x.arg(2);
            x.arg(3);
            x.log(1, 0, 0);
            x.flush(1);
            x.rotate();
        });
    }

    private static void mostLines() {
        EventLog x = CallsTest.mostLines();
        long bytes = made(() -> check.same("lines", x.open(), 24 * 119));
        check.same("the lines stay below 1,000,000 bytes", bytes < 1_000_000, true);
        noneMade("open", x::open);
        noneMade("count", x::count);
    }
}
