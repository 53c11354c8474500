import com.sun.management.ThreadMXBean;
import java.lang.management.ManagementFactory;

/**
 * All calls of one run share a room of some 600,000 objects: an object makes its rows when it is
 * made, and no call makes anything.
 */
public final class RoomTest {
    private static final Check CHECK = new Check();
    private static final ThreadMXBean THREADS = (ThreadMXBean) ManagementFactory.getThreadMXBean();
    private static final int MOST_BYTES_NEW = 20_000;
    private static final int CALLS = 512;

    private static long bytes() {
        return THREADS.getThreadAllocatedBytes(Thread.currentThread().getId());
    }

    public static void main(String[] args) {
        ShowsWhereNobodyIs x = new ShowsWhereNobodyIs();
        long before = bytes();
        x = new ShowsWhereNobodyIs();
        long made = bytes() - before;
        CHECK.due("a new object is small: " + made, made <= MOST_BYTES_NEW ? 1 : 0, 1);
        x = full();
        callAll(x, 0);
        before = bytes();
        for (int i = 0; i < CALLS; i++) {
            callAll(x, i);
        }
        made = bytes() - before;
        CHECK.due("512 of each call make nothing: " + made, made < CALLS ? 1 : 0, 1);
        CHECK.end();
    }

    private static ShowsWhereNobodyIs full() {
        ShowsWhereNobodyIs x = new ShowsWhereNobodyIs();
        x.places(12);
        for (int p = 0; p < 11; p++) {
            x.way(p, p + 1, true);
        }
        for (int i = 0; i < 8; i++) {
            x.person(i % 6, i, i, 11 - i);
        }
        x.row(0, 3, 40);
        x.row(1, 3, 40);
        return x;
    }

    private static void feed(ShowsWhereNobodyIs x) {
        x.feed('h');
        x.feed('o');
        x.feed('u');
        x.feed('r');
        x.feed('7');
    }

    private static void callAll(ShowsWhereNobodyIs x, int i) {
        feed(x);
        x.town();
        feed(x);
        x.wipe();
        x.row(2, i % 5, 40);
        x.set(0, i % 40, x.shines(i % 40, 0));
        x.copy(0, 1, 0, 0, 40);
        x.show(3, i % 8);
        x.says(3, i % 6);
        x.way(0, 11, i % 2 == 0);
        x.put(i % 8, 0, i % 12);
        x.starts(0, 40, i % 8);
        x.kinds(0, 40, i % 8);
        x.judge(0, 40);
        x.next(i % 8);
        x.hidden(0, 11, -1);
        x.hidden(0, 0, 0);
        x.find(i % 8, 48, 1);
        x.meet(0, 1);
        x.darkest(48, 0);
        x.light(0, 48);
        x.when(0);
        x.when(1);
        x.always(48);
        x.never(48);
        x.flickers(48);
        x.round();
        x.without(48);
        x.best(0, 48);
        x.middle();
        x.parts();
        x.newWay();
        x.together(0, 1, 48);
        x.alone(0, 48);
        x.covered(48);
        x.hours(48);
        x.drawn(48);
        x.image();
        x.back();
    }
}
