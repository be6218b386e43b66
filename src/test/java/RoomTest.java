import com.sun.management.ThreadMXBean;
import java.lang.management.ManagementFactory;

/** All calls of a run live in one room: no call makes anything, and a new object is small. */
public final class RoomTest {
    private static final ThreadMXBean BEAN = (ThreadMXBean) ManagementFactory.getThreadMXBean();
    private static final int BYTES_OF_OBJECT = 8000;

    public static void main(String[] args) {
        useAll(new StepsRoundCircle());
        long before = made();
        StepsRoundCircle object = new StepsRoundCircle();
        long between = made();
        useAll(object);
        useAll(object);
        useAll(object);
        long behind = made();
        long asking = made() - behind;
        long byObject = between - before - asking;
        long byCalls = behind - between - asking;
        System.out.println("RoomTest: an object makes " + byObject + " bytes, its calls " + byCalls);
        if (byObject > BYTES_OF_OBJECT || byCalls > 0) {
            System.exit(1);
        }
    }

    private static long made() {
        return BEAN.getThreadAllocatedBytes(Thread.currentThread().getId());
    }

    private static long useAll(StepsRoundCircle x) {
        long all = x.circle(2000) + x.walker(0, 1237, 5, 0) + x.walker(5, 1999, 1999, 9) + x.image();
        for (int n = 1; n <= 200; n += 199) {
            all += x.marks(0, n, 0) + x.lengths(0, n, -1) + x.many(0, n, 0) + x.seen(0, n, 1) + x.split(0, n, 0)
                    + x.closest(0, n, 1) + x.off(0, n, 0) + x.nearer(0, n, -1) + x.crowded(0, n, 9, 1)
                    + x.shared(0, 1, n, 0) + x.odds(0, n, 0);
        }
        all += x.of(0, 4) + x.taken(1, 1) + x.place(0, 4000) + x.meeting(0, 1, 0) + x.terms(0, -1)
                + x.convergent(0, 3, 0) + x.nearest(0, 99, 0) + x.floors(0, 4000) + x.rests(0, 4000)
                + x.reciprocal(0) + x.lots(50, 1, 0);
        all += x.list(0, 40) + x.put(0, 3, 4) + x.look(0, 3) + x.lays(0, 0, 0) + x.judge(0, 0) + x.steps(0, 0)
                + x.kinds(0, 0);
        for (int i = 0; i < 20; i++) {
            all += x.change(0, 1, i);
        }
        all += x.undo() + x.on() + x.drop() + x.count(3) + x.count(11) + x.of(9, 9) + x.off(9, 0, 0);
        for (int i = 0; i < 24; i++) {
            all += x.letter('x') + x.letter('0') + x.letter(';');
        }
        return all + x.letter('x') + x.walk() + x.drop();
    }
}
