/** The boundaries that the document names for what would be: promises 43 to 46. */
public final class WouldBeBoundsTest {
    private static final int[] NONE = {};
    private static final Checks CHECKS = new Checks("WouldBeBoundsTest");

    public static void main(String[] args) {
        costWithShift();
        costWithShiftIsRefused();
        bestShift();
        bestShiftOfSeveral();
        costWithBound();
        neededBound();
        nothingIsChanged();
        CHECKS.finish();
    }

    private static SlowTunes ones(int zero, int one, int judge) {
        SlowTunes tunes = Checks.tunesOf(Checks.row(zero), Checks.row(one));
        tunes.setJudge(judge);
        return tunes;
    }

    private static SlowTunes apart(int bound) {
        SlowTunes tunes = Checks.tunesOf(Checks.row(5), Checks.repeated(5, 20));
        tunes.setBound(bound);
        return tunes;
    }

    private static SlowTunes[] unmatched() {
        return new SlowTunes[] {
            new SlowTunes(), Checks.tunesOf(Checks.row(1), NONE), Checks.tunesOf(NONE, Checks.row(1)), apart(18)};
    }

    private static void costWithShift() {
        CHECKS.sentence("Promise 43", "by: -12 to 12");
        for (int by = -12; by <= 12; by++) {
            CHECKS.same("by " + by, ones(30, 30, 0).costWithShift(by), Math.abs(by));
            CHECKS.same("strict, by " + by, ones(30, 25, 1).costWithShift(by), (5 - by) * (5 - by));
            CHECKS.same("of octaves, by " + by, ones(12, 48, 2).costWithShift(by), Math.min(Math.abs(by), 12 - Math.abs(by)));
            CHECKS.same("kind, by " + by, ones(7, 19, 3).costWithShift(by), by == -12 ? 0 : 1);
        }
        CHECKS.sentence("Promise 43", "all pitches of the tune 1 were greater or less (also beyond 0 and 60)");
        CHECKS.same("60 made 72", ones(60, 60, 0).costWithShift(12), 12);
        CHECKS.same("0 made -12", ones(0, 0, 0).costWithShift(-12), 12);
        CHECKS.same("60 made 72, and 0", ones(0, 60, 1).costWithShift(12), 72 * 72);
        CHECKS.same("0 made -12, and 60", ones(60, 0, 1).costWithShift(-12), 72 * 72);
        SlowTunes dearest = Checks.tunesOf(Checks.row(0), Checks.repeated(60, 20));
        dearest.setJudge(1);
        dearest.setHold(50);
        CHECKS.same("the greatest cost", dearest.costWithShift(12), 20 * 72 * 72 + 19 * 50);
    }

    private static void costWithShiftIsRefused() {
        CHECKS.sentence("Promise 43", "Throws IllegalArgumentException if by is out of range");
        SlowTunes matched = ones(5, 5, 0);
        for (int wrong : Checks.row(-13, 13, Integer.MIN_VALUE, Integer.MAX_VALUE)) {
            CHECKS.refused("by " + wrong, matched, Checks.BAD_NUMBER, () -> matched.costWithShift(wrong));
        }
        CHECKS.sentence("Promise 43", "Throws IllegalStateException if there is no match");
        for (SlowTunes tunes : unmatched()) {
            CHECKS.refused("by 0", tunes, Checks.BAD_STATE, () -> tunes.costWithShift(0));
            CHECKS.refused("by -12", tunes, Checks.BAD_STATE, () -> tunes.costWithShift(-12));
        }
        CHECKS.same("the bound just wide enough", apart(19).costWithShift(0), 19);
    }

    private static void bestShift() {
        CHECKS.sentence("Promise 44", "Returns the shift of the tune 1, -12 to 12, with the least cost");
        for (int by = -12; by <= 12; by++) {
            CHECKS.same("that of " + by, ones(30, 30 - by, 0).bestShift(), by);
        }
        CHECKS.same("13 apart", ones(13, 0, 0).bestShift(), 12);
        CHECKS.same("-13 apart", ones(0, 13, 0).bestShift(), -12);
        CHECKS.same("pitches beyond 60", ones(60, 60, 0).bestShift(), 0);
        SlowTunes beyond = Checks.tunesOf(Checks.row(60, 60, 60), Checks.row(48, 48, 60));
        CHECKS.same("one pitch beyond 60", beyond.bestShift(), 12);
        CHECKS.sentence("Promise 44", "Throws IllegalStateException if there is no match");
        for (SlowTunes tunes : unmatched()) {
            CHECKS.refused("bestShift()", tunes, Checks.BAD_STATE, () -> tunes.bestShift());
        }
        CHECKS.same("the bound just wide enough", apart(19).bestShift(), 0);
    }

    private static void bestShiftOfSeveral() {
        CHECKS.sentence("Promise 44", "of several the nearest to 0, of these the one above 0");
        CHECKS.same("all of them", ones(0, 60, 3).bestShift(), 0);
        CHECKS.same("0, 12 and -12", ones(24, 36, 2).bestShift(), 0);
        CHECKS.same("6 and -6", ones(30, 36, 2).bestShift(), 6);
        CHECKS.same("-5 and 7", ones(30, 35, 2).bestShift(), -5);
        CHECKS.same("5 and -7", ones(30, 37, 2).bestShift(), 5);
        CHECKS.same("-1 and 11", ones(30, 31, 2).bestShift(), -1);
        CHECKS.same("1 and -11", ones(31, 30, 2).bestShift(), 1);
        SlowTunes far = Checks.tunesOf(Checks.row(30, 30), Checks.row(18, 42));
        far.setJudge(3);
        CHECKS.same("12 and -12", far.bestShift(), 12);
        far.setNote(1, 0, 17);
        CHECKS.same("13 and -12", far.bestShift(), -12);
    }

    private static void costWithBound() {
        CHECKS.sentence("Promise 45", "notes: 0 to 20");
        SlowTunes tunes = Checks.tunesOf(Checks.row(1, 1, 1, 5), Checks.row(1, 5, 5, 5));
        CHECKS.same("the least one", tunes.costWithBound(0), 8);
        CHECKS.same("the greatest one", tunes.costWithBound(20), 4);
        CHECKS.sentence("Promise 45", "Returns the cost; -1 if there is no match then");
        for (int bound = 0; bound <= 20; bound++) {
            CHECKS.same("1 and 20 notes, the bound " + bound, apart(0).costWithBound(bound), bound < 19 ? -1 : 19);
            CHECKS.same("no notes, the bound " + bound, new SlowTunes().costWithBound(bound), -1);
        }
        CHECKS.same("the tune 0 empty", Checks.tunesOf(NONE, Checks.row(1)).costWithBound(20), -1);
        CHECKS.same("the tune 1 empty", Checks.tunesOf(Checks.row(1), NONE).costWithBound(20), -1);
        CHECKS.same("no cost at all", Checks.tunesOf(Checks.row(1), Checks.row(1)).costWithBound(0), 0);
        CHECKS.sentence("Promise 45", "Throws IllegalArgumentException if notes is out of range");
        for (int wrong : Checks.row(-1, 21, Integer.MIN_VALUE, Integer.MAX_VALUE)) {
            CHECKS.refused("the bound " + wrong, tunes, Checks.BAD_NUMBER, () -> tunes.costWithBound(wrong));
            SlowTunes empty = new SlowTunes();
            CHECKS.refused("the bound " + wrong + " of none", empty, Checks.BAD_NUMBER, () -> empty.costWithBound(wrong));
        }
    }

    private static void neededBound() {
        CHECKS.sentence("Promise 46", "the least bound with which the least cost is that without a bound");
        CHECKS.same("the least one", Checks.tunesOf(Checks.row(1), Checks.row(60)).neededBound(), 0);
        CHECKS.same("20 and 20 alike", Checks.tunesOf(Checks.repeated(5, 20), Checks.repeated(5, 20)).neededBound(), 0);
        for (int bound : Checks.row(0, 18, 19, 20)) {
            CHECKS.same("1 and 20 notes, the bound " + bound, apart(bound).neededBound(), 19);
            SlowTunes exchanged = apart(bound);
            exchanged.exchange();
            CHECKS.same("20 and 1 notes, the bound " + bound, exchanged.neededBound(), 19);
        }
        for (int ahead = 1; ahead <= 18; ahead++) {
            // The first notes of the tune 0 are like the first one of the tune 1, so that many may be ahead.
            int[] zero = Checks.repeated(1, 20);
            int[] one = Checks.repeated(1, 20);
            java.util.Arrays.fill(zero, ahead + 1, 20, 9);
            java.util.Arrays.fill(one, 1, 20, 9);
            SlowTunes tunes = Checks.tunesOf(zero, one);
            tunes.setJudge(1);
            CHECKS.same(ahead + " ahead", tunes.neededBound(), ahead);
            tunes.exchange();
            CHECKS.same(ahead + " ahead, exchanged", tunes.neededBound(), ahead);
            tunes.setBound(0);
            CHECKS.same(ahead + " ahead, the bound 0", tunes.neededBound(), ahead);
        }
        CHECKS.sentence("Promise 46", "-1 if a tune is empty");
        CHECKS.same("both", new SlowTunes().neededBound(), -1);
        CHECKS.same("the tune 0", Checks.tunesOf(NONE, Checks.repeated(5, 20)).neededBound(), -1);
        CHECKS.same("the tune 1", Checks.tunesOf(Checks.repeated(5, 20), NONE).neededBound(), -1);
    }

    private static void nothingIsChanged() {
        CHECKS.sentence("The public face", "what would be; nothing is changed");
        SlowTunes tunes = Checks.tunesOf(Checks.row(1, 1, 1, 5), Checks.row(1, 5, 5, 5));
        tunes.setBound(1);
        long before = tunes.digest();
        tunes.costWithBound(20);
        tunes.costWithShift(-12);
        tunes.bestShift();
        tunes.neededBound();
        tunes.evenShare();
        CHECKS.same("the bound", tunes.bound(), 1);
        CHECKS.same("the cost", tunes.cost(), 6);
        CHECKS.same("the pitch", tunes.pitch(1, 3), 5);
        CHECKS.same("the digest", tunes.digest(), before);
        CHECKS.same("the saved states", tunes.savedStates(), 6);
    }
}
