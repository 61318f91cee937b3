/** Promises 43 to 46: what another shift or bound would cost. */
public final class WouldBeTest {
    private static final int[] NONE = {};
    private static final Checks CHECKS = new Checks("WouldBeTest");

    public static void main(String[] args) {
        costWithShift();
        shiftedBeyond();
        bestShift();
        nearestShift();
        costWithBound();
        neededBound();
        nothingIsChanged();
        CHECKS.finish();
    }

    private static SlowTunes unmatched() {
        SlowTunes tunes = Checks.tunesOf(Checks.row(1, 2, 3), Checks.row(1));
        tunes.setBound(1);
        return tunes;
    }

    private static void costWithShift() {
        SlowTunes tunes = Checks.tunesOf(Checks.row(20, 25, 20), Checks.row(15, 20, 20, 15));
        CHECKS.same("costWithShift(0)", tunes.costWithShift(0), tunes.cost());
        CHECKS.same("costWithShift(5)", tunes.costWithShift(5), 1);
        CHECKS.same("costWithShift(4)", tunes.costWithShift(4), 5);
        CHECKS.same("costWithShift(12)", tunes.costWithShift(12), 29);
        for (int by = -12; by <= 12; by++) {
            SlowTunes shifted = Checks.tunesOf(Checks.row(20, 25, 20), Checks.row(15 + by, 20 + by, 20 + by, 15 + by));
            CHECKS.same("costWithShift(" + by + ")", tunes.costWithShift(by), shifted.cost());
        }
        for (int wrong : Checks.row(-13, 13, Integer.MIN_VALUE, Integer.MAX_VALUE)) {
            CHECKS.refused("costWithShift(" + wrong + ")", tunes, Checks.BAD_NUMBER, () -> tunes.costWithShift(wrong));
            SlowTunes none = unmatched();
            CHECKS.refused("costWithShift(" + wrong + ")", none, Checks.BAD_NUMBER, () -> none.costWithShift(wrong));
        }
        SlowTunes[] all = {new SlowTunes(), unmatched(), Checks.tunesOf(Checks.row(1), NONE)};
        for (SlowTunes none : all) {
            CHECKS.refused("costWithShift(0), no match", none, Checks.BAD_STATE, () -> none.costWithShift(0));
            CHECKS.refused("costWithShift(12), no match", none, Checks.BAD_STATE, () -> none.costWithShift(12));
        }
    }

    /** The bound, the hold and the judge are those of the settings. */
    private static void shiftedBeyond() {
        SlowTunes tunes = Checks.tunesOf(Checks.row(60, 0), Checks.row(60, 0));
        CHECKS.same("costWithShift(12), beyond 60", tunes.costWithShift(12), 24);
        CHECKS.same("costWithShift(-12), below 0", tunes.costWithShift(-12), 24);
        tunes.setJudge(1);
        CHECKS.same("costWithShift(-12), strict", tunes.costWithShift(-12), 288);
        tunes.setJudge(2);
        CHECKS.same("costWithShift(12), of octaves", tunes.costWithShift(12), 0);
        CHECKS.same("costWithShift(-7), of octaves", tunes.costWithShift(-7), 10);
        tunes.setJudge(3);
        CHECKS.same("costWithShift(1), kind", tunes.costWithShift(1), 2);
        SlowTunes far = Checks.tunesOf(Checks.row(0), Checks.row(60));
        far.setJudge(1);
        CHECKS.same("costWithShift(12), 72 apart", far.costWithShift(12), 5184);
        SlowTunes narrow = Checks.tunesOf(Checks.row(5, 5, 9), Checks.row(3, 7, 7));
        CHECKS.same("costWithShift(2), bound 20", narrow.costWithShift(2), 2);
        narrow.setBound(0);
        CHECKS.same("costWithShift(2), bound 0", narrow.costWithShift(2), 4);
        narrow.setHold(50);
        narrow.setBound(1);
        CHECKS.same("costWithShift(2), hold 50", narrow.costWithShift(2), 4);
    }

    private static void bestShift() {
        SlowTunes tunes = Checks.tunesOf(Checks.row(20, 25, 20), Checks.row(15, 20, 20, 15));
        CHECKS.same("bestShift()", tunes.bestShift(), 5);
        tunes.exchange();
        CHECKS.same("bestShift(), exchanged", tunes.bestShift(), -5);
        CHECKS.same("bestShift() 1", Checks.tunesOf(Checks.row(31), Checks.row(30)).bestShift(), 1);
        CHECKS.same("bestShift() -1", Checks.tunesOf(Checks.row(30), Checks.row(31)).bestShift(), -1);
        CHECKS.same("bestShift() 12", Checks.tunesOf(Checks.row(30), Checks.row(18)).bestShift(), 12);
        CHECKS.same("bestShift() -12", Checks.tunesOf(Checks.row(30), Checks.row(42)).bestShift(), -12);
        CHECKS.same("bestShift() beyond 12", Checks.tunesOf(Checks.row(60), Checks.row(0)).bestShift(), 12);
        CHECKS.same("bestShift() beyond -12", Checks.tunesOf(Checks.row(0), Checks.row(60)).bestShift(), -12);
        SlowTunes[] all = {new SlowTunes(), unmatched(), Checks.tunesOf(NONE, Checks.row(1))};
        for (SlowTunes none : all) {
            CHECKS.refused("bestShift(), no match", none, Checks.BAD_STATE, () -> none.bestShift());
        }
    }

    private static void nearestShift() {
        CHECKS.same("bestShift() of alike", Checks.tunesOf(Checks.row(7), Checks.row(7)).bestShift(), 0);
        SlowTunes octave = Checks.tunesOf(Checks.row(30), Checks.row(30));
        octave.setJudge(2);
        CHECKS.same("bestShift() of 0, 12 and -12", octave.bestShift(), 0);
        octave.setNote(1, 0, 36);
        CHECKS.same("bestShift() of 6 and -6", octave.bestShift(), 6);
        octave.setNote(1, 0, 37);
        CHECKS.same("bestShift() of 5 and -7", octave.bestShift(), 5);
        octave.setNote(1, 0, 35);
        CHECKS.same("bestShift() of 7 and -5", octave.bestShift(), -5);
        SlowTunes kind = Checks.tunesOf(Checks.row(10, 10), Checks.row(7, 13));
        kind.setJudge(3);
        CHECKS.same("bestShift() of 3 and -3", kind.bestShift(), 3);
        SlowTunes plain = Checks.tunesOf(Checks.row(10, 10), Checks.row(7, 13));
        CHECKS.same("bestShift() of all from -3 to 3", plain.bestShift(), 0);
        SlowTunes uneven = Checks.tunesOf(Checks.row(10, 10), Checks.row(12, 16));
        CHECKS.same("bestShift() of all from -6 to -2", uneven.bestShift(), -2);
        SlowTunes above = Checks.tunesOf(Checks.row(20, 20), Checks.row(11, 18));
        CHECKS.same("bestShift() of all from 2 to 9", above.bestShift(), 2);
        SlowTunes far = Checks.tunesOf(Checks.row(0), Checks.row(40));
        far.setJudge(3);
        CHECKS.same("bestShift() of all alike", far.bestShift(), 0);
    }

    private static void costWithBound() {
        SlowTunes tunes = Checks.tunesOf(Checks.row(1, 1, 1, 5), Checks.row(1, 5, 5, 5));
        CHECKS.same("costWithBound(0)", tunes.costWithBound(0), 8);
        CHECKS.same("costWithBound(1)", tunes.costWithBound(1), 6);
        CHECKS.same("costWithBound(2)", tunes.costWithBound(2), 4);
        CHECKS.same("costWithBound(20)", tunes.costWithBound(20), 4);
        tunes.setBound(0);
        CHECKS.same("costWithBound(2), another one set", tunes.costWithBound(2), 4);
        CHECKS.same("costWithBound(1) of no match", unmatched().costWithBound(1), -1);
        CHECKS.same("costWithBound(0) of no match", unmatched().costWithBound(0), -1);
        CHECKS.same("costWithBound(2) of a match then", unmatched().costWithBound(2), 5);
        CHECKS.same("costWithBound(20) of none", new SlowTunes().costWithBound(20), -1);
        CHECKS.same("costWithBound(20), tune 1 empty", Checks.tunesOf(Checks.row(1), NONE).costWithBound(20), -1);
        CHECKS.same("costWithBound(20), tune 0 empty", Checks.tunesOf(NONE, Checks.row(1)).costWithBound(20), -1);
        for (int wrong : Checks.row(-1, 21, Integer.MIN_VALUE, Integer.MAX_VALUE)) {
            CHECKS.refused("costWithBound(" + wrong + ")", tunes, Checks.BAD_NUMBER, () -> tunes.costWithBound(wrong));
        }
    }

    private static void neededBound() {
        CHECKS.same("neededBound() of none", new SlowTunes().neededBound(), -1);
        CHECKS.same("neededBound(), tune 1 empty", Checks.tunesOf(Checks.row(1), NONE).neededBound(), -1);
        CHECKS.same("neededBound(), tune 0 empty", Checks.tunesOf(NONE, Checks.row(1)).neededBound(), -1);
        CHECKS.same("neededBound() of ones", Checks.tunesOf(Checks.row(1), Checks.row(9)).neededBound(), 0);
        CHECKS.same("neededBound() beyond the bound", unmatched().neededBound(), 2);
        SlowTunes tunes = Checks.tunesOf(Checks.row(1, 1, 1, 5), Checks.row(1, 5, 5, 5));
        CHECKS.same("neededBound()", tunes.neededBound(), 2);
        tunes.setBound(0);
        CHECKS.same("neededBound(), the bound 0", tunes.neededBound(), 2);
        tunes.setHold(2);
        CHECKS.same("neededBound() of equal cost", tunes.neededBound(), 0);
        SlowTunes far = Checks.tunesOf(Checks.row(0), Checks.repeated(9, 20));
        CHECKS.same("neededBound() of 1 and 20", far.neededBound(), 19);
        SlowTunes corner = Checks.tunesOf(Checks.repeated(1, 20), Checks.repeated(60, 20));
        for (int note = 1; note < 19; note++) {
            corner.setNote(1, note, 9);
        }
        corner.setNote(1, 0, 1);
        corner.setNote(0, 19, 9);
        corner.setNote(1, 19, 9);
        corner.setHold(0);
        CHECKS.same("neededBound() round a corner", corner.neededBound(), 18);
    }

    private static void nothingIsChanged() {
        SlowTunes tunes = Checks.tunesOf(Checks.row(20, 25, 20), Checks.row(15, 20, 20, 15));
        long before = tunes.digest();
        tunes.costWithShift(12);
        tunes.costWithBound(1);
        CHECKS.same("cost() behind them", tunes.cost(), 16);
        tunes.bestShift();
        tunes.neededBound();
        CHECKS.same("pairs() behind them", tunes.pairs(), 4);
        CHECKS.same("bound() behind them", tunes.bound(), 20);
        CHECKS.sameTune("behind them", tunes, 1, 15, 20, 20, 15);
        CHECKS.same("digest() behind them", tunes.digest(), before);
    }
}
