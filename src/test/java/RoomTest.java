import com.sun.management.ThreadMXBean;
import java.lang.management.ManagementFactory;

/**
 * The room in which all calls of one run live: some 600,000 objects and arrays, 7.3 million fields and elements. Here an
 * object takes at least 16 bytes, a field or an element at least one; so a run that takes fewer bytes than there may be
 * fields and elements keeps to both.
 */
public final class RoomTest {
    private static final int CALLS = 512;
    private static final long MOST_BYTES = 7_300_000L;
    private static final Checks CHECKS = new Checks("RoomTest");
    private static final ThreadMXBean THREADS = (ThreadMXBean) ManagementFactory.getThreadMXBean();

    public static void main(String[] args) {
        CHECKS.sentence("The room of one run", "some 600,000 objects and arrays, 7.3 million fields and elements in all");
        kept("looks", RoomTest::looks);
        kept("the dearest look", RoomTest::digests);
        kept("states saved and dropped", RoomTest::undone);
        kept("states saved", RoomTest::changes);
        kept("texts", RoomTest::texts);
        kept("calls that are refused", RoomTest::refusedCalls);
        CHECKS.finish();
    }

    /** All calls of a run on a new object; what it answers is of no interest. */
    private interface Run {
        void on(SlowTunes tunes);
    }

    private static void kept(String what, Run run) {
        long before = THREADS.getThreadAllocatedBytes(Thread.currentThread().getId());
        run.on(new SlowTunes());
        long taken = THREADS.getThreadAllocatedBytes(Thread.currentThread().getId()) - before;
        CHECKS.same(what + ": " + taken + " bytes are few enough", taken < MOST_BYTES, true);
        CHECKS.same(what + ": " + taken + " bytes are told", taken > 0, true);
    }

    /** 42 calls. */
    private static void fill(SlowTunes tunes) {
        for (int note = 0; note < 20; note++) {
            tunes.addNote(0, note);
            tunes.addNote(1, 60 - note);
        }
        tunes.setJudge(1);
        tunes.setHold(0);
    }

    private static void looks(SlowTunes tunes) {
        fill(tunes);
        for (int call = 43; call + 9 <= CALLS; call += 9) {
            tunes.setNote(0, call % 20, call % 61);
            tunes.cost();
            tunes.bestMatches();
            tunes.partCost();
            tunes.partEnd();
            tunes.bestShift();
            tunes.neededBound();
            tunes.evenShare();
            tunes.costWithShift(call % 13);
        }
    }

    private static void digests(SlowTunes tunes) {
        fill(tunes);
        for (int call = 43; call <= CALLS; call++) {
            tunes.digest();
        }
    }

    private static void undone(SlowTunes tunes) {
        for (int call = 1; call < CALLS; call += 2) {
            tunes.addNote(0, 5);
            tunes.undo();
        }
    }

    private static void changes(SlowTunes tunes) {
        tunes.keep();
        for (int call = 2; call + 3 <= CALLS; call += 3) {
            tunes.setNote(0, tunes.addNote(0, 5) - 1, 7);
            tunes.restore();
        }
    }

    private static void texts(SlowTunes tunes) {
        for (int call = 1; call + 7 <= CALLS; call += 7) {
            Checks.write(tunes, "slow0");
            tunes.firstError();
            tunes.work();
        }
    }

    private static void refusedCalls(SlowTunes tunes) {
        for (int call = 1; call <= CALLS; call++) {
            try {
                tunes.work();
            } catch (IllegalArgumentException thrown) {
                continue;
            }
            CHECKS.same("work() of nothing is refused", false, true);
        }
    }
}
