import com.sun.management.ThreadMXBean;
import java.lang.management.ManagementFactory;
import java.util.function.ObjIntConsumer;

/**
 * The dearest runs of 512 calls must fit into the room of one run, some 600,000 objects and
 * 7.3 million fields and elements. Bytes are measured, which the machine counts by itself: a page
 * with its costs takes two objects and some 72 bytes, so 12 million bytes are far below both.
 */
public final class RoomTest {
    private static final int CALLS = 512;
    private static final long MOST_BYTES = 12000000;

    public static void main(String[] args) {
        run("ticks", ring(), (x, call) -> x.pass(99));
        run("ticks in commands", ring(), (x, call) -> {
            if (x.account(10) == 59) {
                x.commands();
            } else {
                x.append("t99;".charAt(x.account(10) % 4));
            }
        });
        run("settledIn", restless(), (x, call) -> trySettledIn(x));
        run("canals", ring(), (x, call) -> x.canal(0, 1, call % 9 + 1));
        run("districts", ring(), (x, call) -> x.district(0, (call + 1) % 2));
        for (int from = 350; from <= 500; from += 50) {
            int first = from;
            run("letters let go at " + first, ring(), (x, call) -> letGo(x, call, first));
        }
        run("ways and lines", Surveys.row(6), (x, call) -> {
            x.follow(call % 6, (call + 1) % 6);
            x.line(call % 6);
            x.isRight(call % 6);
        });
        Check.end();
    }

    private static CanalMaps ring() {
        CanalMaps x = Surveys.of(6);
        for (int one = 0; one < 6; one++) {
            for (int other = 0; other < one; other++) {
                x.canal(one, other, 1);
            }
        }
        return x;
    }

    /** The ends of a row renew their pages five ticks apart, so that letters are always on their way. */
    private static CanalMaps restless() {
        CanalMaps x = Surveys.row(6);
        x.canal(4, 5, 2);
        return x;
    }

    /** Gathers letters, lets them all arrive in one tick, and has what goes on copied again and again. */
    private static void letGo(CanalMaps x, int call, int first) {
        if (call < first) {
            x.district(0, (call + 1) % 2);
        } else if (call == first) {
            x.pass(1);
        } else if (call % 3 == 0) {
            x.canal(1, 2, call / 3 % 8 + 2);
        } else if (call % 3 == 1) {
            x.save();
        } else {
            trySettledIn(x);
        }
    }

    private static void trySettledIn(CanalMaps x) {
        try {
            x.settledIn();
        } catch (java.util.NoSuchElementException never) {
            return;
        }
    }

    private static void run(String name, CanalMaps x, ObjIntConsumer<CanalMaps> calls) {
        Check.in(name);
        long before = bytes();
        int most = 0;
        for (int call = 30; call < CALLS; call++) {
            calls.accept(x, call);
            most = Math.max(most, x.account(3));
        }
        long taken = bytes() - before;
        System.out.println(name + ": " + taken + " bytes, at most " + most + " letters on their way");
        Check.isTrue(taken < MOST_BYTES, "took " + taken + " bytes");
    }

    private static long bytes() {
        return ((ThreadMXBean) ManagementFactory.getThreadMXBean()).getCurrentThreadAllocatedBytes();
    }
}
