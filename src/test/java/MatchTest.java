/** Promises 30 to 39 and 47: the best match, and how evenly the tunes go on. */
public final class MatchTest {
    private static final int[] NONE = {};
    private static final int[] FAR_NUMBERS = {-1, 20, Integer.MIN_VALUE, Integer.MAX_VALUE};
    private static final Checks CHECKS = new Checks("MatchTest");
    private static long seed = 4711L;

    public static void main(String[] args) {
        isMatched();
        noMatch();
        sungSlower();
        firstOfSeveral();
        priceOfHolds();
        costTo();
        bestMatches();
        longTunes();
        wrongNumbers();
        allMatchesToldOut();
        CHECKS.finish();
    }

    private static void isMatched() {
        CHECKS.same("isMatched() of none", new SlowTunes().isMatched(), false);
        CHECKS.same("isMatched(), tune 1 empty", Checks.tunesOf(Checks.row(1), NONE).isMatched(), false);
        CHECKS.same("isMatched(), tune 0 empty", Checks.tunesOf(NONE, Checks.row(1)).isMatched(), false);
        CHECKS.same("isMatched() of ones", Checks.tunesOf(Checks.row(0), Checks.row(60)).isMatched(), true);
        SlowTunes tunes = Checks.tunesOf(Checks.repeated(5, 4), Checks.row(5));
        tunes.setBound(3);
        CHECKS.same("isMatched(), the bound just wide enough", tunes.isMatched(), true);
        tunes.setBound(2);
        CHECKS.same("isMatched(), the bound too narrow", tunes.isMatched(), false);
        tunes.exchange();
        CHECKS.same("isMatched(), exchanged", tunes.isMatched(), false);
        tunes.setBound(3);
        CHECKS.same("isMatched(), exchanged, wide enough", tunes.isMatched(), true);
    }

    private static void noMatch() {
        SlowTunes apart = Checks.tunesOf(Checks.row(5, 6, 7), Checks.row(5));
        apart.setBound(1);
        SlowTunes[] unmatched = {new SlowTunes(), Checks.tunesOf(Checks.row(1, 2), NONE), apart};
        for (SlowTunes tunes : unmatched) {
            CHECKS.refused("cost()", tunes, Checks.BAD_STATE, () -> tunes.cost());
            CHECKS.refused("costFromEnd()", tunes, Checks.BAD_STATE, () -> tunes.costFromEnd());
            CHECKS.refused("pairs()", tunes, Checks.BAD_STATE, () -> tunes.pairs());
            CHECKS.refused("noteOfPair(0, 0)", tunes, Checks.NO_INDEX, () -> tunes.noteOfPair(0, 0));
            CHECKS.same("holds()", tunes.holds(), 0);
            CHECKS.same("bestMatches()", tunes.bestMatches(), 0);
            CHECKS.same("longestStretch(0)", tunes.longestStretch(0), 0);
            CHECKS.same("longestStretch(1)", tunes.longestStretch(1), 0);
            CHECKS.sameShare("evenShare()", tunes.evenShare(), 0.0);
        }
        for (int note = 0; note < 3; note++) {
            CHECKS.same("stretch(0, " + note + ")", apart.stretch(0, note), 0);
        }
        CHECKS.same("stretch(1, 0)", apart.stretch(1, 0), 0);
        apart.setBound(2);
        CHECKS.same("stretch(1, 0) of a match", apart.stretch(1, 0), 3);
        apart.setBound(1);
        CHECKS.same("stretch(1, 0) of none again", apart.stretch(1, 0), 0);
    }

    private static void sungSlower() {
        SlowTunes tunes = Checks.tunesOf(Checks.row(10, 20, 30), Checks.row(10, 20, 30));
        samePairs(tunes, 0, 0, 0, 1, 1, 2, 2);
        CHECKS.sameShare("evenShare()", tunes.evenShare(), 1.0);
        tunes.slow(1);
        samePairs(tunes, 3, 0, 0, 0, 1, 1, 2, 1, 3, 2, 4, 2, 5);
        CHECKS.sameShare("evenShare(), slow", tunes.evenShare(), 0.5);
        for (int note = 0; note < 3; note++) {
            CHECKS.same("stretch(0, " + note + ")", tunes.stretch(0, note), 2);
        }
        CHECKS.same("stretch(1, 5)", tunes.stretch(1, 5), 1);
        CHECKS.same("longestStretch(0)", tunes.longestStretch(0), 2);
        CHECKS.same("longestStretch(1)", tunes.longestStretch(1), 1);
        tunes.exchange();
        samePairs(tunes, 3, 0, 0, 1, 0, 2, 1, 3, 1, 4, 2, 5, 2);
        CHECKS.same("longestStretch(1), exchanged", tunes.longestStretch(1), 2);
        tunes.setBound(3);
        CHECKS.same("cost() of a bound that leaves it", tunes.cost(), 3);
        tunes.setJudge(1);
        CHECKS.same("cost() of the strict judge", tunes.cost(), 3);
    }

    private static void samePairs(SlowTunes tunes, int cost, int... notes) {
        CHECKS.same("cost()", tunes.cost(), cost);
        CHECKS.same("costFromEnd()", tunes.costFromEnd(), cost);
        CHECKS.same("pairs()", tunes.pairs(), notes.length / 2);
        for (int index = 0; index < notes.length; index++) {
            CHECKS.same("noteOfPair(" + index % 2 + ", " + index / 2 + ")",
                    tunes.noteOfPair(index % 2, index / 2), notes[index]);
        }
    }

    /** Of several best matches: both, then only the tune 0, then only the tune 1, from the beginning on. */
    private static void firstOfSeveral() {
        SlowTunes alike = Checks.tunesOf(Checks.row(5, 5, 5), Checks.row(5, 5));
        samePairs(alike, 1, 0, 0, 1, 1, 2, 1);
        CHECKS.same("bestMatches()", alike.bestMatches(), 2);
        CHECKS.same("holds()", alike.holds(), 1);
        alike.exchange();
        samePairs(alike, 1, 0, 0, 1, 1, 1, 2);
        SlowTunes free = Checks.tunesOf(Checks.row(5, 9, 5), Checks.row(5, 5, 5));
        free.setHold(0);
        samePairs(free, 4, 0, 0, 1, 1, 2, 2);
        CHECKS.same("bestMatches(), holds free", free.bestMatches(), 8);
        SlowTunes turns = Checks.tunesOf(Checks.row(1, 5, 1), Checks.row(1, 1, 5, 5, 1, 1));
        turns.setHold(0);
        samePairs(turns, 0, 0, 0, 0, 1, 1, 2, 1, 3, 2, 4, 2, 5);
        SlowTunes sides = Checks.tunesOf(Checks.row(3, 3, 7), Checks.row(3, 7, 7));
        sides.setHold(0);
        samePairs(sides, 0, 0, 0, 1, 0, 2, 1, 2, 2);
        CHECKS.same("holds(), holds free", sides.holds(), 2);
        CHECKS.sameShare("evenShare()", sides.evenShare(), 0.5);
        SlowTunes either = Checks.tunesOf(Checks.row(2, 8), Checks.row(8, 2));
        either.setHold(0);
        samePairs(either, 12, 0, 0, 1, 1);
        CHECKS.same("bestMatches() of either", either.bestMatches(), 3);
    }

    private static void priceOfHolds() {
        SlowTunes tunes = Checks.tunesOf(Checks.row(1, 9, 9), Checks.row(1, 1, 9));
        tunes.setHold(3);
        samePairs(tunes, 6, 0, 0, 0, 1, 1, 2, 2, 2);
        CHECKS.same("holds()", tunes.holds(), 2);
        tunes.setHold(4);
        samePairs(tunes, 8, 0, 0, 1, 1, 2, 2);
        CHECKS.same("bestMatches() of equal cost", tunes.bestMatches(), 2);
        tunes.setHold(5);
        samePairs(tunes, 8, 0, 0, 1, 1, 2, 2);
        CHECKS.same("holds() that are too dear", tunes.holds(), 0);
        CHECKS.same("bestMatches() then", tunes.bestMatches(), 1);
        tunes.setHold(0);
        tunes.setBound(0);
        samePairs(tunes, 8, 0, 0, 1, 1, 2, 2);
    }

    private static void costTo() {
        SlowTunes tunes = Checks.tunesOf(Checks.row(1, 2, 3), Checks.row(1, 3, 9));
        int[][] due = {{0, 3, 12}, {2, 1, 9}, {5, 2, 7}};
        for (int first = 0; first < 3; first++) {
            for (int second = 0; second < 3; second++) {
                CHECKS.same("costTo(" + first + ", " + second + ")", tunes.costTo(first, second), due[first][second]);
            }
        }
        tunes.setBound(1);
        CHECKS.same("costTo(0, 2), beyond the bound", tunes.costTo(0, 2), -1);
        CHECKS.same("costTo(2, 0), beyond the bound", tunes.costTo(2, 0), -1);
        CHECKS.same("costTo(0, 1), within it", tunes.costTo(0, 1), 3);
        SlowTunes unmatched = Checks.tunesOf(Checks.row(4, 4, 4), Checks.row(6));
        unmatched.setBound(1);
        CHECKS.same("costTo(0, 0) without a match", unmatched.costTo(0, 0), 2);
        CHECKS.same("costTo(1, 0) without a match", unmatched.costTo(1, 0), 5);
        CHECKS.same("costTo(2, 0) without a match", unmatched.costTo(2, 0), -1);
        CHECKS.refused("costTo(0, 0) of none", new SlowTunes(), Checks.NO_INDEX, () -> new SlowTunes().costTo(0, 0));
    }

    /** How many rows of pairs there are, as many as all of them are best. */
    private static long rowsOfPairs(int zero, int one) {
        long[][] rows = new long[zero + 1][one + 1];
        rows[1][1] = 1;
        for (int row = 1; row <= zero; row++) {
            for (int column = 1; column <= one; column++) {
                rows[row][column] += rows[row - 1][column - 1] + rows[row - 1][column] + rows[row][column - 1];
            }
        }
        return rows[zero][one];
    }

    private static void bestMatches() {
        int[][] lengths = {{1, 1}, {1, 20}, {20, 1}, {2, 2}, {9, 9}, {9, 10}, {10, 9}, {10, 10}, {8, 12}, {7, 20}, {20, 20}};
        for (int[] both : lengths) {
            SlowTunes tunes = Checks.tunesOf(Checks.repeated(6, both[0]), Checks.repeated(6, both[1]));
            tunes.setHold(0);
            CHECKS.same("bestMatches() of " + both[0] + " and " + both[1],
                    tunes.bestMatches(), Math.min(1000000L, rowsOfPairs(both[0], both[1])));
        }
        SlowTunes narrow = Checks.tunesOf(Checks.repeated(6, 20), Checks.repeated(6, 20));
        narrow.setHold(0);
        narrow.setBound(0);
        CHECKS.same("bestMatches() of the bound 0", narrow.bestMatches(), 1);
        narrow.setBound(1);
        CHECKS.same("bestMatches() of the bound 1", narrow.bestMatches(), 1000000);
        SlowTunes less = Checks.tunesOf(Checks.repeated(6, 11), Checks.repeated(6, 11));
        less.setHold(0);
        less.setBound(1);
        CHECKS.same("bestMatches() of 11 and the bound 1", less.bestMatches(), 413403);
    }

    private static void longTunes() {
        SlowTunes tunes = Checks.tunesOf(Checks.repeated(0, 20), Checks.repeated(60, 20));
        tunes.setJudge(1);
        tunes.setHold(50);
        CHECKS.same("cost() of 20 and 20", tunes.cost(), 72000);
        CHECKS.same("pairs() of 20 and 20", tunes.pairs(), 20);
        CHECKS.same("noteOfPair(1, 19)", tunes.noteOfPair(1, 19), 19);
        SlowTunes corner = Checks.tunesOf(Checks.row(1, 1, 1, 1, 1, 1, 1, 1, 1, 1, 1, 1, 1, 1, 1, 1, 1, 1, 1, 9),
                Checks.row(1, 9, 9, 9, 9, 9, 9, 9, 9, 9, 9, 9, 9, 9, 9, 9, 9, 9, 9, 9));
        corner.setJudge(1);
        CHECKS.same("pairs() round a corner", corner.pairs(), 38);
        CHECKS.same("holds() round a corner", corner.holds(), 36);
        CHECKS.same("cost() round a corner", corner.cost(), 36);
        CHECKS.same("longestStretch(0) round a corner", corner.longestStretch(0), 19);
        CHECKS.same("longestStretch(1) round a corner", corner.longestStretch(1), 19);
        CHECKS.same("stretch(1, 0) round a corner", corner.stretch(1, 0), 19);
        CHECKS.sameShare("evenShare() round a corner", corner.evenShare(), 2.0 / 38.0);
        SlowTunes one = Checks.tunesOf(Checks.row(0), Checks.repeated(60, 20));
        one.setHold(50);
        CHECKS.same("cost() of 1 and 20", one.cost(), 20 * 60 + 19 * 50);
        CHECKS.same("stretch(0, 0) of 1 and 20", one.stretch(0, 0), 20);
        CHECKS.sameShare("evenShare() of 1 and 20", one.evenShare(), 1.0 / 20.0);
    }

    private static void wrongNumbers() {
        SlowTunes tunes = Checks.tunesOf(Checks.row(10, 20, 30), Checks.row(10, 30));
        for (int wrong : FAR_NUMBERS) {
            CHECKS.refused("costTo(" + wrong + ", 0)", tunes, Checks.NO_INDEX, () -> tunes.costTo(wrong, 0));
            CHECKS.refused("costTo(0, " + wrong + ")", tunes, Checks.NO_INDEX, () -> tunes.costTo(0, wrong));
            CHECKS.refused("noteOfPair(" + wrong + ", 0)", tunes, Checks.NO_INDEX, () -> tunes.noteOfPair(wrong, 0));
            CHECKS.refused("noteOfPair(0, " + wrong + ")", tunes, Checks.NO_INDEX, () -> tunes.noteOfPair(0, wrong));
            CHECKS.refused("stretch(" + wrong + ", 0)", tunes, Checks.NO_INDEX, () -> tunes.stretch(wrong, 0));
            CHECKS.refused("stretch(1, " + wrong + ")", tunes, Checks.NO_INDEX, () -> tunes.stretch(1, wrong));
            CHECKS.refused("longestStretch(" + wrong + ")", tunes, Checks.NO_INDEX, () -> tunes.longestStretch(wrong));
        }
        CHECKS.refused("costTo(3, 0)", tunes, Checks.NO_INDEX, () -> tunes.costTo(3, 0));
        CHECKS.refused("costTo(0, 2)", tunes, Checks.NO_INDEX, () -> tunes.costTo(0, 2));
        CHECKS.refused("noteOfPair(2, 0)", tunes, Checks.NO_INDEX, () -> tunes.noteOfPair(2, 0));
        CHECKS.same("pairs()", tunes.pairs(), 3);
        CHECKS.same("noteOfPair(0, 2)", tunes.noteOfPair(0, 2), 2);
        CHECKS.refused("noteOfPair(0, 3)", tunes, Checks.NO_INDEX, () -> tunes.noteOfPair(0, 3));
        CHECKS.refused("stretch(1, 2)", tunes, Checks.NO_INDEX, () -> tunes.stretch(1, 2));
        CHECKS.refused("longestStretch(2)", tunes, Checks.NO_INDEX, () -> tunes.longestStretch(2));
    }

    private static int next(int below) {
        seed = seed * 6364136223846793005L + 1442695040888963407L;
        return (int) ((seed >>> 33) % below);
    }

    private static int[] someTune(int mostPitch) {
        int[] pitches = new int[1 + next(6)];
        for (int note = 0; note < pitches.length; note++) {
            pitches[note] = next(mostPitch + 1);
        }
        return pitches;
    }

    private static void allMatchesToldOut() {
        for (int round = 0; round < 400; round++) {
            int mostPitch = round % 2 == 0 ? 2 : 15;
            SlowTunes tunes = Checks.tunesOf(someTune(mostPitch), someTune(mostPitch));
            tunes.setHold(next(4));
            tunes.setJudge(next(4));
            tunes.setBound(next(8));
            int[][] unlike = AllMatches.tableOf(tunes);
            AllMatches all = new AllMatches(unlike, tunes.hold(), tunes.bound(), tunes.notes(0) - 1, tunes.notes(1) - 1);
            CHECKS.same("isMatched()", tunes.isMatched(), !all.best.isEmpty());
            CHECKS.same("bestMatches()", tunes.bestMatches(), all.best.size());
            if (!all.best.isEmpty()) {
                sameFirst(tunes, all);
            }
            int first = next(tunes.notes(0));
            int second = next(tunes.notes(1));
            AllMatches upTo = new AllMatches(unlike, tunes.hold(), tunes.bound(), first, second);
            CHECKS.same("costTo()", tunes.costTo(first, second), upTo.best.isEmpty() ? -1 : upTo.cost);
        }
    }

    private static void sameFirst(SlowTunes tunes, AllMatches all) {
        int[][] pairs = all.best.get(0);
        int[][] stretches = new int[2][20];
        int both = 1;
        CHECKS.same("cost()", tunes.cost(), all.cost);
        CHECKS.same("costFromEnd()", tunes.costFromEnd(), all.cost);
        CHECKS.same("pairs()", tunes.pairs(), pairs.length);
        for (int pair = 0; pair < pairs.length; pair++) {
            boolean isBoth = pair > 0 && pairs[pair][0] > pairs[pair - 1][0] && pairs[pair][1] > pairs[pair - 1][1];
            both += isBoth ? 1 : 0;
            for (int tune = 0; tune < 2; tune++) {
                CHECKS.same("noteOfPair()", tunes.noteOfPair(tune, pair), pairs[pair][tune]);
                stretches[tune][pairs[pair][tune]]++;
            }
        }
        CHECKS.same("holds()", tunes.holds(), pairs.length - both);
        CHECKS.sameShare("evenShare()", tunes.evenShare(), (double) both / pairs.length);
        for (int tune = 0; tune < 2; tune++) {
            int longest = 0;
            for (int note = 0; note < tunes.notes(tune); note++) {
                CHECKS.same("stretch()", tunes.stretch(tune, note), stretches[tune][note]);
                longest = Math.max(longest, stretches[tune][note]);
            }
            CHECKS.same("longestStretch()", tunes.longestStretch(tune), longest);
        }
    }
}
