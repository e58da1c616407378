import com.sun.management.ThreadMXBean;
import java.lang.management.ManagementFactory;

/** All calls of a run live in one room: what the dearest runs make is measured, and the time they take bounded. */
public final class RoomTest {
    private static final ThreadMXBean BEAN = (ThreadMXBean) ManagementFactory.getThreadMXBean();
    private static int wrong = 0;

    /** A room of 7.3 million fields and elements is larger than this many bytes, were each a single byte. */
    private static final long ROOM = 7_000_000L;

    private static void check(String what, long bytes, long most) {
        System.out.println(what + ": " + bytes + " bytes");
        if (bytes > most) {
            wrong++;
            System.out.println("  that is more than " + most);
        }
    }

    private static long made() {
        return BEAN.getThreadAllocatedBytes(Thread.currentThread().getId());
    }

    public static void main(String[] args) {
        warmUp();
        long before = made();
        searchOften();
        check("a run of 235 searches", made() - before, ROOM / 20);
        before = made();
        newObjects();
        check("512 new objects", made() - before, ROOM / 2);
        if (wrong != 0) System.exit(1);
    }

    private static void warmUp() {
        searchOften();
        newObjects();
        made();
    }

    private static void searchOften() {
        TypeStarts x = new TypeStarts();
        for (int t = 0; t < 6; t++) {
            x.type(0, t - 1);
            x.field(t);
        }
        for (int h = 0; h < 3; h++) {
            x.thread();
            for (int i = 0; i < 5; i++) x.action(10 + h, 1, i, h, false);
        }
        for (int i = 0; i < 235; i++) {
            x.search();
            if (x.turn(i % 3) < 1 && x.go(i) == 0) x.begin();
        }
    }

    private static void newObjects() {
        int sum = 0;
        for (int i = 0; i < 512; i++) {
            sum += new TypeStarts().steps();
        }
        if (sum != 0) wrong++;
    }
}
