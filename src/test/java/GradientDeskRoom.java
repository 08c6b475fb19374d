import com.sun.management.ThreadMXBean;
import java.lang.management.ManagementFactory;

/** All calls of a run live in one room: a new desk is small, and its calls make nothing at all. */
public final class GradientDeskRoom {
    private static final long MOST_FOR_A_DESK = 400_000;
    private static final long MOST_FOR_CALLS = 20_000;

    private static final ThreadMXBean THREADS = (ThreadMXBean) ManagementFactory.getThreadMXBean();

    public static void main(String[] args) {
        run();
        long[] spent = run();
        boolean small = spent[0] <= MOST_FOR_A_DESK && spent[1] <= MOST_FOR_CALLS;
        System.out.println("a desk takes " + spent[0] + " bytes, its calls " + spent[1] + (small ? "" : ": too many"));
        if (!small) {
            System.exit(1);
        }
    }

    private static long taken() {
        return THREADS.getThreadAllocatedBytes(Thread.currentThread().getId());
    }

    private static long[] run() {
        long before = taken();
        GradientDesk desk = new GradientDesk();
        long between = taken();
        desk.set(0, 9973, 9967);
        desk.set(1, -9949, 9941);
        desk.set(2, 9931, 9929);
        for (int i = 0; i < 40; i++) {
            define(desk, "(1/9*a+b)*(c-a)^2", 0);
            define(desk, "A+A*1/3+(9999^9-a)*(b+7)", 1);
            desk.derive(1, i % 3, 2);
            desk.derive(2, 0, 3);
            desk.gradient(1);
            desk.along(1, 1, 2, 3);
            desk.reckon(i % 3, 6, 0, 1);
            desk.reckon(2, 6, 6, 6);
            desk.compare(6, 7);
            desk.write(1);
            desk.clear();
        }
        return new long[] {between - before, taken() - between};
    }

    private static void define(GradientDesk desk, String text, int name) {
        for (int from = 0; from < text.length(); from += 8) {
            long w = 0;
            int n = Math.min(8, text.length() - from);
            for (int i = 0; i < n; i++) {
                w |= (long) text.charAt(from + i) << (8 * i);
            }
            desk.type(w, n);
        }
        desk.define(name);
    }
}
