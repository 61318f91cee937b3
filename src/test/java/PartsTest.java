/** Promises 40 to 42: the part of the tune 1 that the tune 0 is like. */
public final class PartsTest {
    private static final int[] NONE = {};
    private static final Checks CHECKS = new Checks("PartsTest");
    private static long seed = 99L;

    public static void main(String[] args) {
        empty();
        eachCallAlone();
        inside();
        ties();
        noBound();
        longTunes();
        allPartsToldOut();
        CHECKS.finish();
    }

    private static void empty() {
        SlowTunes[] some = {new SlowTunes(), Checks.tunesOf(Checks.row(1), NONE), Checks.tunesOf(NONE, Checks.row(1))};
        for (SlowTunes tunes : some) {
            CHECKS.refused("partCost()", tunes, Checks.BAD_STATE, () -> tunes.partCost());
            CHECKS.refused("partBegin()", tunes, Checks.BAD_STATE, () -> tunes.partBegin());
            CHECKS.refused("partEnd()", tunes, Checks.BAD_STATE, () -> tunes.partEnd());
        }
    }

    /** No call leans on another one that was made ahead of it. */
    private static void eachCallAlone() {
        SlowTunes tunes = Checks.tunesOf(Checks.row(10, 20), Checks.row(50, 10, 20, 50));
        CHECKS.same("partBegin() first", tunes.partBegin(), 1);
        tunes.flip(1);
        tunes.setNote(1, 0, 10);
        tunes.setNote(1, 1, 20);
        CHECKS.same("partEnd() behind a change", tunes.partEnd(), 1);
        tunes.undo();
        tunes.undo();
        CHECKS.same("partBegin() behind undo", tunes.partBegin(), 1);
        tunes.undo();
        CHECKS.same("partCost() behind undo", tunes.partCost(), 0);
        SlowTunes other = Checks.tunesOf(Checks.row(10, 20), Checks.row(50, 10, 20, 50));
        CHECKS.same("partEnd() first", other.partEnd(), 2);
        other.dropNote(1, 0);
        CHECKS.same("partBegin() behind a change", other.partBegin(), 0);
    }

    private static void samePart(String what, SlowTunes tunes, int cost, int begin, int end) {
        CHECKS.same("partCost() " + what, tunes.partCost(), cost);
        CHECKS.same("partBegin() " + what, tunes.partBegin(), begin);
        CHECKS.same("partEnd() " + what, tunes.partEnd(), end);
    }

    private static void inside() {
        samePart("of ones", Checks.tunesOf(Checks.row(0), Checks.row(60)), 60, 0, 0);
        SlowTunes tunes = Checks.tunesOf(Checks.row(10, 20), Checks.row(50, 10, 20, 50));
        samePart("in the middle", tunes, 0, 1, 2);
        samePart("at the end", Checks.tunesOf(Checks.row(10, 20), Checks.row(50, 40, 10, 20)), 0, 2, 3);
        samePart("at the beginning", Checks.tunesOf(Checks.row(10, 20), Checks.row(10, 20, 50)), 0, 0, 1);
        samePart("that is sung slower", Checks.tunesOf(Checks.row(1, 30, 1), Checks.row(60, 1, 30, 30, 1, 60)), 1, 1, 4);
        samePart("of one note", Checks.tunesOf(Checks.row(7, 7, 7), Checks.row(60, 7, 60)), 2, 1, 1);
        tunes.exchange();
        samePart("of more than all", tunes, 72, 0, 1);
        tunes.setHold(50);
        samePart("with dear holds", tunes, 170, 0, 1);
        tunes.setJudge(3);
        samePart("by the kind judge", tunes, 102, 0, 1);
        CHECKS.same("saved by looks at parts", tunes.savedStates(), 6);
    }

    /** Of several parts the one that ends earlier, and of these the one that begins later. */
    private static void ties() {
        samePart("that ends earlier", Checks.tunesOf(Checks.row(5), Checks.row(3, 5, 5)), 0, 1, 1);
        SlowTunes later = Checks.tunesOf(Checks.row(1, 9), Checks.row(1, 1, 1, 9, 9));
        later.setHold(0);
        samePart("that begins later", later, 0, 2, 3);
        SlowTunes earlier = Checks.tunesOf(Checks.row(4, 6), Checks.row(4, 6, 4, 6));
        samePart("that ends earlier, though another begins later", earlier, 0, 0, 1);
        SlowTunes held = Checks.tunesOf(Checks.row(5, 5), Checks.row(5, 5, 5));
        held.setHold(0);
        samePart("of one note, holds free", held, 0, 0, 0);
        held.setHold(1);
        samePart("of two notes, holds dearer", held, 0, 0, 1);
        SlowTunes both = Checks.tunesOf(Checks.row(5, 7), Checks.row(5, 6));
        samePart("of equal cost at one end", both, 1, 0, 1);
        SlowTunes one = Checks.tunesOf(Checks.row(5, 6), Checks.row(6, 6));
        samePart("that ends earlier by a hold", Checks.tunesOf(Checks.row(6, 6), Checks.row(6, 7)), 1, 0, 0);
        samePart("of a hold and a step", one, 1, 0, 1);
        one.setHold(0);
        samePart("of one note of the tune 1", one, 1, 0, 0);
    }

    private static void noBound() {
        SlowTunes tunes = Checks.tunesOf(Checks.row(1, 30, 59), Checks.row(50, 50, 50, 50, 1, 30, 59));
        tunes.setBound(0);
        CHECKS.same("isMatched()", tunes.isMatched(), false);
        samePart("beyond the bound", tunes, 0, 4, 6);
        tunes.exchange();
        samePart("beyond the bound, exchanged", tunes, 114, 1, 2);
    }

    private static void longTunes() {
        SlowTunes tunes = Checks.tunesOf(Checks.repeated(0, 20), Checks.repeated(60, 20));
        tunes.setJudge(1);
        tunes.setHold(50);
        samePart("of 20 and 20", tunes, 72000, 0, 19);
        tunes.setNote(1, 19, 0);
        samePart("of the last note", tunes, 19 * 50, 19, 19);
    }

    private static int next(int below) {
        seed = seed * 6364136223846793005L + 1442695040888963407L;
        return (int) ((seed >>> 33) % below);
    }

    private static int[] someTune(int most, int mostPitch) {
        int[] pitches = new int[1 + next(most)];
        for (int note = 0; note < pitches.length; note++) {
            pitches[note] = next(mostPitch + 1);
        }
        return pitches;
    }

    private static void allPartsToldOut() {
        for (int round = 0; round < 300; round++) {
            int mostPitch = round % 2 == 0 ? 2 : 12;
            SlowTunes tunes = Checks.tunesOf(someTune(4, mostPitch), someTune(7, mostPitch));
            tunes.setHold(next(3));
            tunes.setJudge(next(4));
            tunes.setBound(next(21));
            int[][] unlike = AllMatches.tableOf(tunes);
            int[] best = null;
            for (int end = 0; end < tunes.notes(1); end++) {
                for (int begin = end; begin >= 0; begin--) {
                    int cost = costOf(unlike, tunes.hold(), begin, end);
                    if (best == null || cost < best[0]) {
                        best = new int[] {cost, begin, end};
                    }
                }
            }
            samePart("of round " + round, tunes, best[0], best[1], best[2]);
        }
    }

    private static int costOf(int[][] unlike, int hold, int begin, int end) {
        int[][] part = new int[unlike.length][];
        for (int row = 0; row < unlike.length; row++) {
            part[row] = java.util.Arrays.copyOfRange(unlike[row], begin, end + 1);
        }
        return new AllMatches(part, hold, 20, part.length - 1, end - begin).cost;
    }
}
