import com.sun.management.ThreadMXBean;
import java.lang.management.ManagementFactory;
import java.util.function.IntSupplier;

/** What calls make stays small: all calls of a run live in one room of 7.3 million fields and elements. */
final class RoomTest {
    private static final int CALLS = 512;
    private static final ThreadMXBean BEAN = (ThreadMXBean) ManagementFactory.getThreadMXBean();

    public static void main(String[] args) {
        Check c = new Check("RoomTest");
        c.so("a new object", bytesOf(() -> new SweetWaits().count(0), 100) < 60000);
        SweetWaits x = new SweetWaits();
        for (int i = 0; i < 120; i++) {
            x.child(i % 6, i % 10, i % 3, i % 2, i % 8, i % 3);
            x.minute(i, 13 * i % 201, i % 2);
            x.later(i, 0, 7 * i % 1000);
        }
        for (int i = 0; i < 9; i++) {
            Check.text(x, "chance 30+minute;waits way*dealt+wit;later waited*wit;in if not wit=" + i);
        }
        x.image(0);
        x.image(1);
        IntSupplier[] calls = {() -> x.fact(0, 0, 0), () -> x.promise(0, 2), () -> x.later(0, 0, 5),
            () -> x.group(0, 1), () -> x.member(0, 5), () -> x.stays(-1, 200), () -> x.half(0), () -> x.right(0, 0, 9),
            () -> x.goneOn(-1), () -> x.chance(0, 0, 0), () -> x.times(0, 1, -1), () -> x.likely(-1),
            () -> x.waits(0, 0), () -> x.parts(0, 1, -1, 2, 2), () -> x.trial(0, 1, -1),
            () -> x.fewest(0, 1, -1, 2, 2, 99), () -> x.bounds(0, 1), () -> x.apart(0, 1, 1), () -> x.pairs(-1, 3, 0),
            () -> x.beside(-1, 3), () -> x.hides(5), () -> x.looked(1), () -> x.best(), () -> x.paid(3, 5),
            () -> x.lasts(0, 1, 2), () -> x.trust(3), () -> x.run(0, 5), () -> x.world(-1, 2), () -> x.drawn(1),
            () -> x.like(0, 1, 1), () -> x.image(0), () -> x.back(0), () -> x.count(4), () -> x.feed(1, 2, 3, 4, 5),
            () -> x.end(0), () -> x.row(0), () -> x.status()};
        for (int i = 0; i < calls.length; i++) {
            long bytes = bytesOf(calls[i], CALLS);
            c.so("call " + i + " makes nothing, but made " + bytes + " bytes", bytes < 16);
        }
        String text = "chance " + "1+".repeat(49) + "1" + " ".repeat(250);
        long bytes = bytesOf(() -> {
            Check.tape(x, text);
            x.back(0);
            return x.text();
        }, CALLS);
        c.so("a text makes no more than it has, but made " + bytes + " bytes", bytes < 4000);
        c.end();
    }

    /** Bytes made by one of n calls, on the average; they have been made once ahead of that. */
    private static long bytesOf(IntSupplier call, int n) {
        int sum = call.getAsInt();
        long thread = Thread.currentThread().getId();
        long had = BEAN.getThreadAllocatedBytes(thread);
        for (int i = 0; i < n; i++) {
            sum += call.getAsInt();
        }
        long made = BEAN.getThreadAllocatedBytes(thread) - had;
        return sum == Integer.MIN_VALUE ? -1 : made / n;
    }
}
