import com.sun.management.ThreadMXBean;
import java.lang.management.ManagementFactory;

/** The room of LANGUAGE.md's rule 12: only action() makes objects once a PlanJudge stands. */
final class RoomTest {
    private static final Check check = new Check();
    private static final ThreadMXBean THREADS = (ThreadMXBean) ManagementFactory.getThreadMXBean();
    /** Far below what one object a call would take; the measuring itself makes some. */
    private static final long SLACK = 20000;

    private RoomTest() {
    }

    public static void main(String[] args) {
        PlanJudge[] objects = new PlanJudge[8];
        for (int i = 0; i < objects.length; i++) {
            objects[i] = busyObject();
        }
        work(busyObject());
        long before = used();
        for (PlanJudge x : objects) {
            for (int i = 0; i < 6; i++) {
                work(x);
            }
        }
        long taken = used() - before;
        check.so("48 times 68 calls took " + taken + " bytes", taken < SLACK);
        before = used();
        busyObject();
        taken = used() - before;
        check.so("an object with 12 actions took " + taken + " bytes", taken < 60000);
        check.close();
    }

    private static long used() {
        return THREADS.getThreadAllocatedBytes(Thread.currentThread().getId());
    }

    private static PlanJudge busyObject() {
        PlanJudge x = new PlanJudge();
        for (int a = 0; a < 12; a++) {
            x.action();
            x.amount(a + 1, 7);
            x.compare(a, 0, a % 8, 3);
            x.change(a, 0, a % 8, 1);
            x.change(a, 2, a % 8, 3);
            x.make(a, 0, a, true);
            x.last(a, 0, a % 8);
        }
        x.amount(9, 1);
        for (int n = 0; n < 8; n++) {
            x.number(n);
        }
        return x;
    }

    private static void work(PlanJudge x) {
        x.wish(15, 1);
        x.seek(6);
        x.wish(15, 0);
        x.clear();
        for (int s = 0; s < 12; s++) {
            x.moment(s, 3);
            x.amount(s + 1, 2);
            x.step(s);
        }
        x.judge();
        for (int s = 0; s < 12; s++) {
            x.push(2 * s);
            x.push(2 * s + 1);
        }
        x.arrange();
        x.judge();
        x.seek(6);
    }
}
