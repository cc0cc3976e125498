import com.sun.management.ThreadMXBean;
import java.lang.management.ManagementFactory;

/** All calls of a run live in one room that is never cleared: how many bytes each kind of call makes. */
public final class RoomTest {
    private static final String HOUSE = "weather hour-8;ice 0-degrees-salt*4;mild 3;cell a stove 0;cell b stove 0;"
        + "door a to out thick 20;door b to a thick 3;man m in b salt 2 waits 0;guard a b;";

    private final Check check = new Check();
    private final ThreadMXBean threads = (ThreadMXBean) ManagementFactory.getThreadMXBean();

    public static void main(String[] args) {
        RoomTest test = new RoomTest();
        test.questions();
        test.prisons();
        test.objects();
        test.check.end();
    }

    private void atMost(String what, long made, long most) {
        check.due(what + made, made <= most, true);
    }

    private long made() {
        return threads.getCurrentThreadAllocatedBytes();
    }

    private void questions() {
        FrostLocks x = check.told(HOUSE);
        for (int mark = 0; mark < 4; mark++) {
            x.mark(mark, false);
        }
        ask(x);
        long before = made();
        ask(x);
        atMost("bytes that the questions make: ", made() - before, 1000);
    }

    private static void ask(FrostLocks x) {
        for (int door = 0; door < 2; door++) {
            x.pour(door, 3);
            x.soon(door, 240);
            x.needs(door, 240);
            x.first(240, door);
            x.enough(door, 240);
            x.beside(door);
        }
        x.hours(1000);
        x.salt(0, 1);
        x.stove(0, 1);
        x.plan(0, 2);
        x.escape(0, 240);
        x.salted(1);
        x.thaw(240);
        x.amnesty(1, 1);
        x.lots(1, 20, 120, 1);
        for (int mark = 0; mark < 4; mark++) {
            x.mark(mark, false);
            x.mark(mark, true);
        }
    }

    private void prisons() {
        FrostLocks x = check.told(HOUSE);
        Check.feed(x, HOUSE);
        long before = made();
        x.prison();
        atMost("bytes that a prison makes: ", made() - before, 6000);
    }

    private void objects() {
        new FrostLocks();
        long before = made();
        new FrostLocks();
        atMost("bytes that an object makes: ", made() - before, 8000);
    }
}
