import com.sun.management.ThreadMXBean;
import java.lang.management.ManagementFactory;
import java.util.function.IntConsumer;

/** An object and its 512 calls make few objects and arrays, whatever the calls are. */
public final class RoomTest {
    private static final int CALLS = 512;
    private static final long MOST_BYTES = 300_000;

    private static int wrong = 0;

    private static WhisperCrowd full() {
        WhisperCrowd x = new WhisperCrowd();
        for (int m = 0; m < 10; m++) {
            x.come(m * m);
            for (int other = 0; other < m; other++) x.line(m, other);
        }
        return x;
    }

    private static long made() {
        ThreadMXBean bean = (ThreadMXBean) ManagementFactory.getThreadMXBean();
        return bean.getCurrentThreadAllocatedBytes();
    }

    private static void room(String what, WhisperCrowd x, IntConsumer call) {
        call.accept(0);
        long before = made();
        for (int i = 0; i < CALLS; i++) call.accept(i);
        long bytes = made() - before;
        if (bytes > MOST_BYTES) {
            wrong++;
            System.out.println(what + " makes " + bytes + " bytes in " + CALLS + " calls");
        }
    }

    public static void main(String[] args) {
        WhisperCrowd x = full();
        room("set()", x, i -> x.set(i % 10, i));
        room("draw(0, 60)", x, i -> x.draw(0, 60));
        room("round(2, 20)", x, i -> x.round(2, 20));
        room("fresh()", x, i -> x.fresh());
        room("seed() and undo()", x, i -> { x.seed(i); x.undo(); });
        room("send() and lose()", x, i -> { x.send(0, 1); x.lose(0); });
        room("fall() and back()", x, i -> { x.fall(3); x.back(3, i); });
        for (int m = 0; m < 10; m++) x.set(m, m * m * m);
        room("fewest(3)", x, i -> x.fewest(3));
        room("digest()", x, i -> x.digest());
        room("far(), guess(), many()", x, i -> { x.far(); x.guess(1); x.many(2); x.unsure(); });
        room("new WhisperCrowd()", x, i -> { if (i % 256 == 1) full(); });
        System.out.println(wrong == 0 ? "all calls keep to their room" : wrong + " calls make too much");
        if (wrong != 0) System.exit(1);
    }
}
