import com.sun.management.ThreadMXBean;
import java.lang.management.ManagementFactory;

/**
 * A run's room is some 600,000 objects and 7.3 million fields and elements. An object takes 16
 * bytes at least, and an element one: so a run of 512 calls that takes fewer bytes than there may
 * be elements keeps to both. The runs are those of the calls that make the most.
 */
public final class RoomTest {
    private static final int CALLS = 512;
    private static final long MOST_BYTES = 7_300_000;

    public static void main(String[] args) {
        if (ManagementFactory.getThreadMXBean() instanceof ThreadMXBean threads
                && threads.isThreadAllocatedMemorySupported()) {
            threads.setThreadAllocatedMemoryEnabled(true);
            for (int kind = 0; kind < 4; kind++) {
                long ahead = threads.getCurrentThreadAllocatedBytes();
                run(kind);
                long taken = threads.getCurrentThreadAllocatedBytes() - ahead;
                Due.is("whether run " + kind + " takes too much with " + taken + " bytes",
                        taken > 0 && taken < MOST_BYTES ? 0 : 1, 0);
            }
        } else {
            System.out.println("this Java does not count bytes: nothing is tested here");
        }
        Due.end();
    }

    /** Cranes 0 to 3 and a text of eight applications; then one kind of call, and undo(). */
    private static void run(int kind) {
        CranePermits site = new CranePermits();
        for (int crane = 0; crane < 4; crane++) {
            site.crane(4 * crane, 0, 8, 10 + 10 * crane, crane, 1);
        }
        for (int hour = 0; hour < 8; hour++) {
            for (char sign : ("0n0h" + hour + "-" + hour + "s1;").toCharArray()) {
                site.type(sign);
            }
        }
        for (int call = 84; call < CALLS; call++) {
            if (call % 2 == 1 && kind < 3) {
                Due.is("undo()", site.undo(), 3);
            } else if (kind == 0) {
                Due.is("enter()", site.enter(), 8);
            } else if (kind == 1) {
                Due.is("crane()", site.crane(15, 15, 8, 99, 3, 9), 4);
            } else if (kind == 2) {
                Due.is("apply()", site.apply(0, 1, 9, 255), 0);
            } else {
                Due.is("fault(0)", site.fault(0), CranePermits.NOT_FOUND);
            }
        }
    }
}
