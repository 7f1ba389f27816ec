import com.sun.management.ThreadMXBean;
import java.lang.management.ManagementFactory;

/** All calls of a run share one room: an object is small, and its calls make none. */
public final class RoomTest {
    private static final ThreadMXBean BEAN = (ThreadMXBean) ManagementFactory.getThreadMXBean();
    private static final int MOST_FOR_ONE = 8000;
    /** Measuring itself, and the machine's own compiling, take a little. */
    private static final int MOST_FOR_CALLS = 2000;

    public static void main(String[] args) {
        if (!BEAN.isThreadAllocatedMemorySupported()) {
            System.out.println("  the room can't be measured here");
            return;
        }
        long thread = Thread.currentThread().getId();
        long sum = 0;
        for (int warm = 0; warm < 3; warm++) {
            sum += allCalls(Check.green("t57301946 d05g17f00b23s14k39"));
        }
        long ahead = BEAN.getThreadAllocatedBytes(thread);
        LimeDeaths x = new LimeDeaths();
        long made = BEAN.getThreadAllocatedBytes(thread);
        Check.write(x, 0, "t57301946 d05g17f00b23s14k39");
        x.green(0);
        long from = BEAN.getThreadAllocatedBytes(thread);
        for (int k = 0; k < 20; k++) {
            sum += allCalls(x);
        }
        long to = BEAN.getThreadAllocatedBytes(thread);
        System.out.println("  an object " + (made - ahead) + " bytes, twenty times all calls " + (to - from)
            + " bytes (" + sum + ")");
        if (made - ahead > MOST_FOR_ONE || to - from > MOST_FOR_CALLS) {
            System.exit(1);
        }
    }

    private static long allCalls(LimeDeaths x) {
        long sum = x.row(0, 2) + x.lay(0, 0, 4) + x.lay(0, 1, 3) + x.at(0, 0) + x.copy(0, 0, 0, 1, 1) + x.mean(0);
        sum += x.tear(0) + x.text(1, 5) + x.put(1, 0, 7) + x.fault(0) + x.green(0) + x.row(0, 2) + x.lay(0, 0, 4);
        sum += x.bough(0, 2) + x.death(0, 5) + x.mark(5, 1) + x.answers(0, 0, 0) + x.leaves(40) + x.bare(0);
        sum += x.round(63, 1) + x.plan(3, 9, 2) + x.about(0, 0) + x.sure(0, 0) + x.next(0, 0) + x.worths(0, 0);
        sum += x.kinds(0, 0) + x.sets(12) + x.surely(12) + x.duel(2) + x.odds(0, 5, 5) + x.mid(5) + x.morning();
        sum += x.tell(0) + x.water(3, 2) + x.prune(5) + x.keep(0) + x.undo(2) + x.on(0) + x.lots(20, 7);
        for (int what = 0; what < 12; what++) {
            sum += x.count(what);
        }
        return sum + x.asked() + x.upper() + x.lower() + x.finding() + x.findings(1) + x.digest();
    }
}
