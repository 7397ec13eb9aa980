import com.sun.management.ThreadMXBean;
import java.lang.management.ManagementFactory;

/** What a new object and a run of the dearest calls make: a small part of the room of all calls of one run. */
public final class RoomTest {
    /** The room has 7.3 million fields and elements; a part of it, of 4 bytes each. */
    private static final long ROOM = 7300000L * 4 / 10;
    private static final ThreadMXBean THREADS = (ThreadMXBean) ManagementFactory.getThreadMXBean();

    public static void main(String[] args) {
        // once ahead, so that what the machine itself makes at first is not counted
        game(made());
        long ahead = bytes();
        Ambassadors x = made();
        long object = bytes() - ahead;
        Check.due("bytes of a new object with texts: " + object, object < 20000 ? 1 : 0, 1);
        ahead = bytes();
        game(x);
        long calls = bytes() - ahead;
        Check.due("bytes that calls make: " + calls, calls < ROOM ? 1 : 0, 1);
        Check.finish();
    }

    private static long bytes() {
        return THREADS.getThreadAllocatedBytes(Thread.currentThread().getId());
    }

    private static Ambassadors made() {
        Ambassadors x = new Ambassadors();
        for (int t = 0; t < 6; t++) {
            Check.tape(x, "allows 1 or reason < step * stone + more - far ; worth far * turn ; price 1 + turn * 9 ;");
            x.text();
        }
        return x;
    }

    private static void game(Ambassadors x) {
        x.force(4);
        x.envoy(1, 9);
        x.image();
        x.best(3, 0);
        x.reach(1, 4);
        x.envoy(3, 9);
        x.envoy(2, 3);
        for (int k = 0; k < 60; k++) {
            x.move(k % 9 - 4, k % 4);
        }
        x.film(0, 40);
        for (int k = 0; k < 25; k++) {
            x.judge(0);
            x.end(0, 2);
            x.kinds(0, 1, 1);
            x.starts(0, 701);
            x.laws(0);
            x.odds(k, 4050, 0, 0);
            x.reach(5, 4);
            x.best(3, 1);
            x.may(0);
            x.worth(0, 1, 0);
            x.sheet(1, 2, 40);
            x.copy(1, 0, 1, 5, 20);
        }
        x.back();
    }
}
