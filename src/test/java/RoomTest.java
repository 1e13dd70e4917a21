import com.sun.management.ThreadMXBean;
import java.lang.management.ManagementFactory;
import java.util.function.IntSupplier;

/** What the dearest calls make: 512 of each must fit into the one room that all calls of a run live in. */
public final class RoomTest {
    private static final Due due = new Due("room");
    private static final ThreadMXBean THREADS = (ThreadMXBean) ManagementFactory.getThreadMXBean();
    /** 7.3 million fields and elements, were each an int. */
    private static final long ROOM = 4L * 7_300_000;
    private static final int CALLS = 512, TRIES = 64;

    private static void fits(String call, IntSupplier made) {
        made.getAsInt();
        long before = THREADS.getThreadAllocatedBytes(Thread.currentThread().getId());
        for (int i = 0; i < TRIES; i++) made.getAsInt();
        long bytes = THREADS.getThreadAllocatedBytes(Thread.currentThread().getId()) - before;
        due.is(call + " makes " + bytes + " bytes in " + TRIES + " calls, few enough", bytes * (CALLS / TRIES) <= ROOM ? 1 : 0, 1);
    }

    public static void main(String[] args) {
        LastStirred x = Due.flock("g65" + ".".repeat(29) + "ob22s33l14c41");
        x.stir(0, 0);
        x.row(0, 4);
        x.row(1, 60);
        fits("fewest()", x::fewest);
        fits("ways(2)", () -> x.ways(2));
        fits("gather()", x::gather);
        fits("part(0, 1)", () -> x.part(0, 1));
        fits("wolf(29, 2)", () -> x.wolf(29, 2));
        fits("dawn(0)", () -> x.dawn(0));
        fits("who(0)", () -> x.who(0));
        fits("breed(0)", () -> x.breed(0));
        fits("drive(1)", () -> x.drive(1));
        fits("ring()", x::ring);
        fits("ground(0)", () -> x.ground(0));
        fits("never()", x::never);
        fits("reach(0, 1)", () -> x.reach(0, 1));
        fits("run()", x::run);
        fits("go(40)", () -> x.go(40));
        fits("row(2, 60)", () -> x.row(2, 60));
        fits("text(1, 80)", () -> x.text(1, 80));
        fits("where(3)", () -> x.where(3));
        fits("keep(0)", () -> x.keep(0));
        fits("digest()", () -> (int) x.digest());
        due.end();
    }
}
