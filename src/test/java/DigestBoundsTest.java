import java.math.BigInteger;

/** The boundaries that the document names for the digest: promise 48, its values written out. */
public final class DigestBoundsTest {
    private static final long ONE_AS_BITS = 0x3FF0000000000000L;
    private static final Checks CHECKS = new Checks("DigestBoundsTest");

    public static void main(String[] args) {
        newObject();
        oneTuneEmpty();
        noMatch();
        match();
        stops();
        buffer();
        saved();
        greatestBits();
        snapshot();
        CHECKS.finish();
    }

    /** The hash in numbers without an end, of which a long keeps the last 64 bits. */
    private static long hashOf(long... values) {
        BigInteger hash = BigInteger.valueOf(4547);
        for (long value : values) {
            hash = hash.multiply(BigInteger.valueOf(31)).add(BigInteger.valueOf(value));
        }
        return hash.longValue();
    }

    private static void newObject() {
        CHECKS.sentence("Promise 48", "The hash starts at 4547; in long arithmetic with overflow");
        CHECKS.same("a new object", new SlowTunes().digest(), hashOf(0, 0, 20, 1, 0, 0, 0, 0, 0, 0, 0, 0, 0));
    }

    private static void oneTuneEmpty() {
        CHECKS.sentence("Promise 48", "if no tune is empty, partCost, partBegin and partEnd");
        SlowTunes zero = Checks.tunesOf(Checks.row(0, 60), new int[0]);
        CHECKS.same("the tune 1 empty", zero.digest(), hashOf(2, 0, 60, 0, 20, 1, 0, 1, 0, 2, 0, 0, 0, 0, 0, 0, 0));
        SlowTunes one = Checks.tunesOf(new int[0], Checks.row(60, 0));
        CHECKS.same("the tune 0 empty", one.digest(), hashOf(0, 2, 60, 0, 20, 1, 0, 0, 0, 2, 0, 0, 0, 0, 0, 0, 0));
    }

    private static void noMatch() {
        CHECKS.sentence("Promise 48", "isMatched, and, if that is true, cost, .. neededBound");
        SlowTunes tunes = Checks.tunesOf(Checks.row(1, 4), Checks.row(4));
        tunes.setBound(0);
        CHECKS.same("no match, no tune empty", tunes.digest(),
                hashOf(2, 1, 4, 1, 4, 0, 1, 0, 1, 0, 4, 0, 0, 4, 0, 0, 0, 0, 0, 3, -1, 0, 0, 0));
        CHECKS.sentence("Promise 48", "for each note of the tune 0 costTo of it and each note of the tune 1");
        tunes.exchange();
        CHECKS.same("no match, exchanged", tunes.digest(),
                hashOf(1, 4, 2, 1, 4, 0, 1, 0, 1, 0, 0, 1, 1, 5, 0, 0, 0, 0, 0, 3, -1, 0, 0, 0));
    }

    private static void match() {
        CHECKS.sentence("Promise 48", "for each pair of the first best match noteOfPair of both tunes");
        SlowTunes tunes = Checks.tunesOf(Checks.row(5, 7), Checks.row(6));
        CHECKS.same("a hold", tunes.digest(), hashOf(2, 5, 7, 1, 6, 20, 1, 0, 1,
                1, 3, 3, 2, 1, 1, 0, 1,
                3, 0, 0, 3, 0, 0, 1, 0,
                1, 1, 1, 2, 2, 1, 3, 0, Double.doubleToLongBits(0.5), 0));
    }

    private static void stops() {
        CHECKS.sentence("Promise 48", "hasStopped, and, if that is true, stoppedPart and whyStopped");
        SlowTunes tunes = new SlowTunes();
        Checks.write(tunes, "sing0:5,7;sing1:6;hold:2;slow1;lower1:7");
        tunes.work();
        long[] values = {2, 5, 7, 2, 6, 6, 20, 2, 0, 1, 1, 2, 2, 2, 0, 1, 0, 0, 2, 0, 1, 1, 0, 0, 1, 1,
            1, 1, 1, 1, 1, 1, 1, 4, 4, 2, 1, 4, 2, ONE_AS_BITS, 0};
        CHECKS.same("a stop", tunes.digest(), hashOf(values));
        SlowTunes empty = new SlowTunes();
        Checks.write(empty, "slow0;sing0:1,1,1,1,1,1,1,1,1,1,1,1,1,1,1,1,1,1,1,1,1");
        empty.work();
        CHECKS.same("a stop without notes", empty.digest(), hashOf(0, 0, 20, 1, 0, 0, 0, 1, 0, 0, 1, 1, 1, 0, 0));
        Checks.write(empty, "flip0");
        empty.work();
        CHECKS.same("no stop then", empty.digest(), hashOf(0, 0, 20, 1, 0, 0, 0, 2, 0, 0, 0, 0, 0));
    }

    private static void buffer() {
        CHECKS.sentence("Promise 48", "the length of the buffer and each of its character codes");
        SlowTunes tunes = new SlowTunes();
        tunes.append(33);
        tunes.append(126);
        CHECKS.same("two", tunes.digest(), hashOf(0, 0, 20, 1, 0, 0, 0, 0, 0, 0, 0, 0, 2, 33, 126));
        tunes.clearBuffer();
        long[] values = new long[13 + 60];
        values[2] = 20;
        values[3] = 1;
        values[12] = 60;
        for (int index = 0; index < 60; index++) {
            tunes.append(33 + index);
            values[13 + index] = 33 + index;
        }
        CHECKS.same("60", tunes.digest(), hashOf(values));
        tunes.clearBuffer();
        CHECKS.same("none", tunes.digest(), hashOf(0, 0, 20, 1, 0, 0, 0, 0, 0, 0, 0, 0, 0));
        tunes.append(34);
        CHECKS.same("one, 60 before", tunes.digest(), hashOf(0, 0, 20, 1, 0, 0, 0, 0, 0, 0, 0, 0, 1, 34));
    }

    private static void saved() {
        CHECKS.sentence("Promise 48", "savedStates");
        SlowTunes tunes = new SlowTunes();
        for (int change = 1; change <= 8; change++) {
            tunes.exchange();
            CHECKS.same(change + " changes", tunes.digest(),
                    hashOf(0, 0, 20, 1, 0, 0, 0, Math.min(6, change), 0, 0, 0, 0, 0));
        }
        CHECKS.sentence("Promise 48", "bound, hold, judge");
        tunes.setBound(0);
        tunes.setHold(50);
        tunes.setJudge(3);
        CHECKS.same("other settings", tunes.digest(), hashOf(0, 0, 0, 50, 3, 0, 0, 6, 0, 0, 0, 0, 0));
    }

    /** One pair alone, and a share whose bits are not those of a power of 2. */
    private static void greatestBits() {
        CHECKS.sentence("Promise 48", "the bits of evenShare (as Double.doubleToLongBits)");
        SlowTunes one = Checks.tunesOf(Checks.row(60), Checks.row(60));
        CHECKS.same("1.0", one.digest(), hashOf(1, 60, 1, 60, 20, 1, 0, 0, 1, 0, 0, 1, 0, 1, 0, 0, 0, 0, 0, 2, 0, 0,
                1, 1, 1, 1, 0, 0, ONE_AS_BITS, 0));
        SlowTunes three = Checks.tunesOf(Checks.row(9), Checks.row(9, 9, 9));
        three.setHold(50);
        CHECKS.same("a third", three.digest(), hashOf(1, 9, 3, 9, 9, 9, 20, 50, 0, 0, 1, 100, 100, 3, 2, 1, 0, 2,
                0, 0, 0, 5, 0, 0, 0, 1, 0, 2, 3, 3, 1, 1, 1, 1, 0, 50, 100, 0, Double.doubleToLongBits(1.0 / 3.0), 0));
    }

    private static void snapshot() {
        CHECKS.sentence("Promise 48", "The values are");
        SlowTunes tunes = Checks.tunesOf(Checks.row(5, 7), Checks.row(6));
        long before = tunes.digest();
        tunes.keep();
        CHECKS.same("a snapshot is none of them", tunes.digest(), before);
        CHECKS.same("digest() saves no state", tunes.savedStates(), 3);
    }
}
