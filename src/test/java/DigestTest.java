import java.util.ArrayList;
import java.util.List;

/** Promise 48: the digest, and the bits of the share of promise 47 in it. */
public final class DigestTest {
    private static final Checks CHECKS = new Checks("DigestTest");

    public static void main(String[] args) {
        newObject();
        statesOfAllKinds();
        sharesOfAllLengths();
        eachPartCounts();
        CHECKS.finish();
    }

    /** The values of a new object, written out: two lengths, settings, rises, no match, and so on. */
    private static void newObject() {
        SlowTunes tunes = new SlowTunes();
        long[] values = {0, 0, 20, 1, 0, 0, 0, 0, 0, 0, 0, 0, 0};
        long hash = 4547;
        for (long value : values) {
            hash = 31 * hash + value;
        }
        CHECKS.same("digest() of a new object", tunes.digest(), hash);
        CHECKS.same("digest() again", tunes.digest(), hash);
        CHECKS.same("saved by digest", tunes.savedStates(), 0);
        SlowTunes ones = Checks.tunesOf(Checks.row(7), Checks.row(5));
        long[] valuesOfOnes = {1, 7, 1, 5, 20, 1, 0, 0, 1, 2, 2, 1, 0, 1, 2, 0, 2, 0, 0, 2, 0, 0, 1, 1, 1, 1, 2, 0,
            0x3FF0000000000000L, 0};
        long hashOfOnes = 4547;
        for (long value : valuesOfOnes) {
            hashOfOnes = 31 * hashOfOnes + value;
        }
        CHECKS.same("digest() of ones", ones.digest(), hashOfOnes);
    }

    private static void statesOfAllKinds() {
        SlowTunes tunes = Checks.tunesOf(Checks.row(7, 9, 7), Checks.row(5, 9, 9, 60));
        sameDigest("a match", tunes);
        tunes.setBound(0);
        sameDigest("no match", tunes);
        String text = "bound:20;judge:1;raise1:1;hold:0";
        Checks.write(tunes, text);
        sameDigest("a buffer", tunes, text);
        tunes.work();
        sameDigest("a stop", tunes);
        tunes.keep();
        tunes.undo();
        sameDigest("a snapshot", tunes);
        sameDigest("a tune 0 alone", Checks.tunesOf(Checks.row(3, 4, 60), new int[0]));
        sameDigest("a tune 1 alone", Checks.tunesOf(new int[0], Checks.row(3, 4, 60)));
        SlowTunes full = Checks.tunesOf(Checks.repeated(0, 20), Checks.repeated(60, 3));
        full.setJudge(1);
        for (int length = 1; length <= 60; length++) {
            full.append(126);
        }
        sameDigest("a full buffer", full, "~".repeat(60));
    }

    /** Shares of every kind of fraction, the best match being forced to hold. */
    private static void sharesOfAllLengths() {
        for (int zero = 1; zero <= 20; zero++) {
            for (int one = 1; one <= 20; one++) {
                SlowTunes tunes = Checks.tunesOf(Checks.repeated(5, zero), Checks.repeated(5, one));
                int more = Math.max(zero, one);
                CHECKS.sameShare("evenShare() of " + zero + " and " + one,
                        tunes.evenShare(), (double) Math.min(zero, one) / more);
                // An object is promised for 512 calls, and each pair of notes takes one.
                if (zero <= 3 || one == 20 && zero <= 9) {
                    sameDigest(zero + " and " + one, tunes);
                }
            }
        }
    }

    /** A digest tells apart states that differ in one value alone. */
    private static void eachPartCounts() {
        SlowTunes tunes = Checks.tunesOf(Checks.row(7, 9), Checks.row(5, 9));
        long before = tunes.digest();
        tunes.append(33);
        CHECKS.same("digest() of another buffer", tunes.digest() != before, true);
        tunes.clearBuffer();
        CHECKS.same("digest() of the same", tunes.digest(), before);
        tunes.setHold(1);
        CHECKS.same("digest() of more saved states", tunes.digest() != before, true);
        tunes.undo();
        CHECKS.same("digest() undone", tunes.digest(), before);
    }

    private static void sameDigest(String what, SlowTunes tunes) {
        sameDigest(what, tunes, "");
    }

    /** The buffer can't be looked at, so it is told. */
    private static void sameDigest(String what, SlowTunes tunes, String buffer) {
        CHECKS.same("digest() of " + what, tunes.digest(), Model.hashOf(values(tunes, buffer)));
    }

    private static List<Long> values(SlowTunes tunes, String buffer) {
        List<Long> values = new ArrayList<>();
        for (int tune = 0; tune < 2; tune++) {
            add(values, tunes.notes(tune));
            for (int note = 0; note < tunes.notes(tune); note++) {
                add(values, tunes.pitch(tune, note));
            }
        }
        add(values, tunes.bound(), tunes.hold(), tunes.judge(), tunes.rises(), tunes.isMatched() ? 1 : 0);
        if (tunes.isMatched()) {
            add(values, tunes.cost(), tunes.costFromEnd(), tunes.pairs(), tunes.holds(), tunes.bestMatches());
            add(values, tunes.bestShift(), tunes.neededBound());
        }
        if (tunes.notes(0) > 0 && tunes.notes(1) > 0) {
            add(values, tunes.partCost(), tunes.partBegin(), tunes.partEnd());
        }
        add(values, tunes.savedStates());
        int pairs = tunes.isMatched() ? tunes.pairs() : 0;
        for (int pair = 0; pair < pairs; pair++) {
            add(values, tunes.noteOfPair(0, pair), tunes.noteOfPair(1, pair));
        }
        addStretches(values, tunes);
        add(values, tunes.hasStopped() ? 1 : 0);
        if (tunes.hasStopped()) {
            add(values, tunes.stoppedPart(), tunes.whyStopped());
        }
        values.add(Double.doubleToLongBits(tunes.evenShare()));
        add(values, buffer.length());
        buffer.chars().forEach(code -> values.add((long) code));
        return values;
    }

    private static void addStretches(List<Long> values, SlowTunes tunes) {
        int[] lengths = {tunes.notes(0), tunes.notes(1)};
        for (int tune = 0; tune < 2; tune++) {
            add(values, tunes.longestStretch(tune));
            for (int note = 0; note < lengths[tune]; note++) {
                add(values, tunes.stretch(tune, note));
            }
        }
        for (int first = 0; first < lengths[0]; first++) {
            for (int second = 0; second < lengths[1]; second++) {
                add(values, tunes.costTo(first, second));
            }
        }
    }

    private static void add(List<Long> values, int... next) {
        for (int value : next) {
            values.add((long) value);
        }
    }
}
