/** The boundaries that the document names for matches: "Matches", promises 30 to 39, and 47. */
public final class MatchBoundsTest {
    private static final int[] NONE = {};
    private static final Checks CHECKS = new Checks("MatchBoundsTest");

    public static void main(String[] args) {
        firstAndLastNotes();
        steps();
        bound();
        price();
        noMatch();
        firstOfTwoSteps();
        isMatched();
        cost();
        oneNoteUnlikeAll();
        costTo();
        costToWithoutMatch();
        pairs();
        noteOfPair();
        stretch();
        longestStretch();
        holds();
        bestMatches();
        evenShare();
        CHECKS.finish();
    }

    private static SlowTunes alike(int zero, int one) {
        return Checks.tunesOf(Checks.repeated(6, zero), Checks.repeated(6, one));
    }

    /** 19 notes of the tune 0 are like the first note of the tune 1, and its last note is like 19 of the tune 1. */
    private static SlowTunes corner() {
        int[] zero = Checks.repeated(1, 20);
        int[] one = Checks.repeated(9, 20);
        zero[19] = 9;
        one[0] = 1;
        SlowTunes tunes = Checks.tunesOf(zero, one);
        tunes.setJudge(1);
        return tunes;
    }

    /** No match: tunes that are empty, and such whose lengths are farther apart than the bound. */
    private static SlowTunes[] unmatched() {
        SlowTunes apart = Checks.tunesOf(Checks.row(5, 6, 7), Checks.row(5));
        apart.setBound(1);
        SlowTunes most = alike(1, 20);
        most.setBound(18);
        return new SlowTunes[] {
            new SlowTunes(), Checks.tunesOf(Checks.row(1), NONE), Checks.tunesOf(NONE, Checks.row(1)), apart, most};
    }

    private static void samePairs(String what, SlowTunes tunes, int... notes) {
        CHECKS.same("pairs() " + what, tunes.pairs(), notes.length / 2);
        for (int index = 0; index < notes.length; index++) {
            CHECKS.same("noteOfPair(" + index % 2 + ", " + index / 2 + ") " + what,
                    tunes.noteOfPair(index % 2, index / 2), notes[index]);
        }
    }

    private static void firstAndLastNotes() {
        CHECKS.sentence("Matches", "It begins with the first notes, and ends with the last ones");
        int[][] lengths = {{1, 1}, {1, 2}, {2, 1}, {1, 20}, {20, 1}, {19, 20}, {20, 20}};
        for (int[] both : lengths) {
            SlowTunes tunes = Checks.tunesOf(Checks.rising(0, both[0]), Checks.rising(41, both[1]));
            String what = " of " + both[0] + " and " + both[1];
            CHECKS.same("the first pair" + what, tunes.noteOfPair(0, 0), 0);
            CHECKS.same("the first pair" + what, tunes.noteOfPair(1, 0), 0);
            CHECKS.same("the last pair" + what, tunes.noteOfPair(0, tunes.pairs() - 1), both[0] - 1);
            CHECKS.same("the last pair" + what, tunes.noteOfPair(1, tunes.pairs() - 1), both[1] - 1);
        }
    }

    private static void steps() {
        CHECKS.sentence("Matches", "both tunes go on by a note, or only the tune 0 does, or only the tune 1 does");
        SlowTunes tunes = corner();
        samePairs("up to the corner", Checks.tunesOf(Checks.row(1, 1, 9), Checks.row(1, 9, 9)), 0, 0, 1, 0, 2, 1, 2, 2);
        for (int pair = 1; pair < tunes.pairs(); pair++) {
            int zero = tunes.noteOfPair(0, pair) - tunes.noteOfPair(0, pair - 1);
            int one = tunes.noteOfPair(1, pair) - tunes.noteOfPair(1, pair - 1);
            CHECKS.same("the step to the pair " + pair + ", of the tune 0", zero, pair <= 19 ? 1 : 0);
            CHECKS.same("the step to the pair " + pair + ", of the tune 1", one, pair >= 19 ? 1 : 0);
        }
    }

    private static int farthest(SlowTunes tunes) {
        int farthest = 0;
        int pairs = tunes.pairs();
        for (int pair = 0; pair < pairs; pair++) {
            farthest = Math.max(farthest, Math.abs(tunes.noteOfPair(0, pair) - tunes.noteOfPair(1, pair)));
        }
        return farthest;
    }

    private static void bound() {
        CHECKS.sentence("Matches", "the numbers of both notes are not farther apart than the bound (0 to 20, at first 20)");
        CHECKS.same("at first", farthest(corner()), 18);
        for (int bound = 0; bound <= 20; bound++) {
            SlowTunes tunes = corner();
            tunes.setBound(bound);
            CHECKS.same("the tune 0 ahead, the bound " + bound, farthest(tunes), Math.min(18, bound));
            SlowTunes exchanged = corner();
            exchanged.setBound(bound);
            exchanged.exchange();
            CHECKS.same("the tune 1 ahead, the bound " + bound, farthest(exchanged), Math.min(18, bound));
            // Each pair farther from the corner than the bound takes one unlike pair, 64, in place of two holds.
            int due = 64 * (18 - Math.min(18, bound)) + 2 * Math.min(18, bound);
            CHECKS.same("cost(), the bound " + bound, tunes.cost(), due);
            CHECKS.same("costFromEnd(), the bound " + bound, tunes.costFromEnd(), due);
            CHECKS.same("cost() exchanged, the bound " + bound, exchanged.cost(), due);
        }
    }

    private static void price() {
        CHECKS.sentence("Matches", "for each step by which only one tune goes on the price of a hold (0 to 50, at first 1)");
        SlowTunes tunes = alike(1, 20);
        CHECKS.same("at first", tunes.cost(), 19);
        tunes.setHold(0);
        CHECKS.same("the least one", tunes.cost(), 0);
        tunes.setHold(50);
        CHECKS.same("the greatest one", tunes.cost(), 950);
        tunes.exchange();
        CHECKS.same("the tune 1 held", tunes.cost(), 950);
        SlowTunes even = alike(20, 20);
        even.setHold(50);
        CHECKS.same("no step of only one", even.cost(), 0);
    }

    private static void noMatch() {
        CHECKS.sentence("Matches", "There is no match, if a tune is empty");
        CHECKS.same("both", new SlowTunes().isMatched(), false);
        CHECKS.same("the tune 0", Checks.tunesOf(NONE, Checks.repeated(5, 20)).isMatched(), false);
        CHECKS.same("the tune 1", Checks.tunesOf(Checks.row(5), NONE).isMatched(), false);
        SlowTunes dropped = alike(1, 1);
        CHECKS.same("none", dropped.isMatched(), true);
        dropped.dropNote(1, 0);
        CHECKS.same("the last note dropped", dropped.isMatched(), false);
        CHECKS.sentence("Matches", "or the lengths of the tunes are farther apart than the bound");
        for (int length = 1; length <= 20; length++) {
            SlowTunes tunes = alike(1, length);
            for (int bound = 0; bound <= 20; bound++) {
                tunes.setBound(bound);
                CHECKS.same("1 and " + length + " notes, the bound " + bound, tunes.isMatched(), length - 1 <= bound);
                tunes.exchange();
                CHECKS.same("exchanged, the bound " + bound, tunes.isMatched(), length - 1 <= bound);
                tunes.exchange();
            }
        }
    }

    private static void firstOfTwoSteps() {
        CHECKS.sentence("Matches", "the first of these steps with which a best match goes on: both, only the tune 0, only the tune 1");
        SlowTunes three = alike(2, 2);
        three.setHold(0);
        samePairs("of all three", three, 0, 0, 1, 1);
        samePairs("of both and only the tune 0", alike(3, 2), 0, 0, 1, 1, 2, 1);
        samePairs("of both and only the tune 1", alike(2, 3), 0, 0, 1, 1, 1, 2);
        // The pair of the second notes is dear; on either side of it there are two pairs, each 36 unlike.
        SlowTunes tied = Checks.tunesOf(Checks.row(10, 4, 10, 10), Checks.row(10, 16, 10, 10));
        tied.setJudge(1);
        CHECKS.same("bestMatches() of two sides", tied.bestMatches(), 4);
        samePairs("of only the tune 0 and only the tune 1", tied, 0, 0, 1, 0, 2, 1, 3, 2, 3, 3);
        tied.exchange();
        samePairs("of only the tune 0 and only the tune 1, exchanged", tied, 0, 0, 1, 0, 2, 1, 3, 2, 3, 3);
    }

    private static void isMatched() {
        CHECKS.sentence("Promise 30", "Returns whether there is a match");
        for (SlowTunes tunes : unmatched()) {
            CHECKS.same("none", tunes.isMatched(), false);
        }
        CHECKS.same("the shortest one", alike(1, 1).isMatched(), true);
        CHECKS.same("the longest tunes", alike(20, 20).isMatched(), true);
        SlowTunes most = alike(20, 1);
        most.setBound(19);
        CHECKS.same("20 and 1 notes, the bound 19", most.isMatched(), true);
        most.setBound(18);
        CHECKS.same("20 and 1 notes, the bound 18", most.isMatched(), false);
    }

    private static void cost() {
        SlowTunes dearest = Checks.tunesOf(Checks.row(0), Checks.repeated(60, 20));
        dearest.setJudge(1);
        dearest.setHold(50);
        CHECKS.sentence("Promise 31", "Returns the least cost of a match, told from the beginning");
        CHECKS.same("the least one", alike(20, 20).cost(), 0);
        CHECKS.same("the greatest one", dearest.cost(), 20 * 3600 + 19 * 50);
        CHECKS.same("of one pair", Checks.tunesOf(Checks.row(0), Checks.row(60)).cost(), 60);
        CHECKS.sentence("Promise 31", "Throws IllegalStateException if there is no match");
        for (SlowTunes tunes : unmatched()) {
            CHECKS.refused("cost()", tunes, Checks.BAD_STATE, () -> tunes.cost());
        }
        CHECKS.sentence("Promise 32", "Returns the same, told from the end");
        CHECKS.same("the least one", alike(20, 20).costFromEnd(), 0);
        CHECKS.same("the greatest one", dearest.costFromEnd(), 20 * 3600 + 19 * 50);
        CHECKS.same("of one pair", Checks.tunesOf(Checks.row(60), Checks.row(0)).costFromEnd(), 60);
        CHECKS.sentence("Promise 32", "Throws IllegalStateException if there is no match");
        for (SlowTunes tunes : unmatched()) {
            CHECKS.refused("costFromEnd()", tunes, Checks.BAD_STATE, () -> tunes.costFromEnd());
        }
    }

    /** A note that is like no other is in a pair of each match, also where the other tune is held at its first or last note. */
    private static void oneNoteUnlikeAll() {
        CHECKS.sentence("Matches", "only the tune 0 does (the note of the tune 1 is held), or only the tune 1 does");
        for (int length : Checks.row(18, 19, 20)) {
            for (int place = 0; place < length; place++) {
                int[] zero = Checks.repeated(0, length);
                zero[place] = 60;
                SlowTunes tunes = Checks.tunesOf(zero, Checks.repeated(0, 20));
                tunes.setHold(0);
                String what = " of the note " + place + " of " + length;
                CHECKS.same("cost()" + what, tunes.cost(), 60);
                CHECKS.same("costFromEnd()" + what, tunes.costFromEnd(), 60);
                CHECKS.same("pairs()" + what, tunes.pairs(), 20);
                CHECKS.same("partCost()" + what, tunes.partCost(), 60);
                tunes.exchange();
                CHECKS.same("cost() exchanged" + what, tunes.cost(), 60);
                CHECKS.same("costFromEnd() exchanged" + what, tunes.costFromEnd(), 60);
                CHECKS.same("pairs() exchanged" + what, tunes.pairs(), 20);
            }
        }
    }

    private static void costTo() {
        CHECKS.sentence("Promise 33", "the least cost of a row of pairs from the beginning up to a pair");
        SlowTunes tunes = alike(20, 20);
        CHECKS.same("the first pair", tunes.costTo(0, 0), 0);
        CHECKS.same("the last note of the tune 0", tunes.costTo(19, 0), 19);
        CHECKS.same("the last note of the tune 1", tunes.costTo(0, 19), 19);
        CHECKS.same("the last pair", tunes.costTo(19, 19), tunes.cost());
        CHECKS.same("beside the last pair", tunes.costTo(18, 19), 1);
        SlowTunes first = Checks.tunesOf(Checks.row(60, 0), Checks.row(0, 60));
        CHECKS.same("of the first pair alone", first.costTo(0, 0), 60);
        CHECKS.sentence("Promise 33", "which is like a match up to there; -1 if there is none");
        for (int bound : Checks.row(0, 1, 18, 19, 20)) {
            tunes.setBound(bound);
            for (int second = 0; second < 20; second++) {
                CHECKS.same("to (0, " + second + "), the bound " + bound, tunes.costTo(0, second), second <= bound ? second : -1);
                CHECKS.same("to (" + second + ", 0), the bound " + bound, tunes.costTo(second, 0), second <= bound ? second : -1);
            }
        }
        CHECKS.sentence("Promise 33", "Throws IndexOutOfBoundsException if there is no such note");
        SlowTunes uneven = alike(3, 5);
        for (int far : Checks.row(-1, 5, 20, Integer.MIN_VALUE, Integer.MAX_VALUE)) {
            CHECKS.refused("costTo(" + far + ", 0)", uneven, Checks.NO_INDEX, () -> uneven.costTo(far, 0));
            CHECKS.refused("costTo(0, " + far + ")", uneven, Checks.NO_INDEX, () -> uneven.costTo(0, far));
        }
        CHECKS.refused("costTo(3, 0)", uneven, Checks.NO_INDEX, () -> uneven.costTo(3, 0));
        CHECKS.same("costTo(2, 4)", uneven.costTo(2, 4), 2);
    }

    private static void costToWithoutMatch() {
        CHECKS.sentence("Promise 33", "like a match up to there");
        SlowTunes apart = alike(1, 20);
        apart.setBound(18);
        CHECKS.same("within the bound, without a match", apart.costTo(0, 18), 18);
        CHECKS.same("beyond the bound, without a match", apart.costTo(0, 19), -1);
        SlowTunes empty = Checks.tunesOf(Checks.row(1), NONE);
        CHECKS.refused("costTo(0, 0), the tune 1 empty", empty, Checks.NO_INDEX, () -> empty.costTo(0, 0));
        SlowTunes other = Checks.tunesOf(NONE, Checks.row(1));
        CHECKS.refused("costTo(0, 0), the tune 0 empty", other, Checks.NO_INDEX, () -> other.costTo(0, 0));
    }

    private static void pairs() {
        CHECKS.sentence("Promise 34", "Returns the number of pairs of the first best match");
        CHECKS.same("the fewest", alike(1, 1).pairs(), 1);
        CHECKS.same("1 and 20 notes", alike(1, 20).pairs(), 20);
        CHECKS.same("20 and 1 notes", alike(20, 1).pairs(), 20);
        CHECKS.same("20 and 20 notes", alike(20, 20).pairs(), 20);
        CHECKS.same("the most", corner().pairs(), 38);
        CHECKS.sentence("Promise 34", "Throws IllegalStateException if there is no match");
        for (SlowTunes tunes : unmatched()) {
            CHECKS.refused("pairs()", tunes, Checks.BAD_STATE, () -> tunes.pairs());
        }
    }

    private static void noteOfPair() {
        CHECKS.sentence("Promise 35", "pair: from 0; Returns the number of the note of this tune");
        SlowTunes tunes = corner();
        CHECKS.same("the pair 0", tunes.noteOfPair(0, 0), 0);
        CHECKS.same("the pair 37 of 38", tunes.noteOfPair(0, 37), 19);
        CHECKS.same("the pair 37 of 38", tunes.noteOfPair(1, 37), 19);
        CHECKS.same("the pair 18 of 38", tunes.noteOfPair(0, 18), 18);
        CHECKS.same("the pair 18 of 38", tunes.noteOfPair(1, 18), 0);
        CHECKS.same("the pair 19 of 38", tunes.noteOfPair(0, 19), 19);
        CHECKS.same("the pair 19 of 38", tunes.noteOfPair(1, 19), 1);
        CHECKS.sentence("Promise 35", "Throws IndexOutOfBoundsException if there is no such tune or pair");
        for (int far : Checks.row(-1, 2, Integer.MIN_VALUE, Integer.MAX_VALUE)) {
            CHECKS.refused("noteOfPair(" + far + ", 0)", tunes, Checks.NO_INDEX, () -> tunes.noteOfPair(far, 0));
        }
        for (int far : Checks.row(-1, 38, 39, 40, Integer.MIN_VALUE, Integer.MAX_VALUE)) {
            CHECKS.refused("noteOfPair(0, " + far + ")", tunes, Checks.NO_INDEX, () -> tunes.noteOfPair(0, far));
            CHECKS.refused("noteOfPair(1, " + far + ")", tunes, Checks.NO_INDEX, () -> tunes.noteOfPair(1, far));
        }
        tunes.setHold(50);
        CHECKS.same("fewer pairs than before", tunes.pairs(), 20);
        CHECKS.refused("noteOfPair(0, 20), fewer than before", tunes, Checks.NO_INDEX, () -> tunes.noteOfPair(0, 20));
        CHECKS.sentence("Promise 35", "(no pair, if there is no match)");
        for (SlowTunes none : unmatched()) {
            CHECKS.refused("noteOfPair(0, 0)", none, Checks.NO_INDEX, () -> none.noteOfPair(0, 0));
            CHECKS.refused("noteOfPair(1, 0)", none, Checks.NO_INDEX, () -> none.noteOfPair(1, 0));
        }
        tunes.dropNote(1, 0);
        tunes.setBound(0);
        CHECKS.refused("a match before, none now", tunes, Checks.NO_INDEX, () -> tunes.noteOfPair(0, 0));
    }

    private static void stretch() {
        CHECKS.sentence("Promise 36", "Returns how many pairs, 0 if there is no match");
        SlowTunes tunes = alike(1, 20);
        CHECKS.same("the most", tunes.stretch(0, 0), 20);
        CHECKS.same("the fewest", tunes.stretch(1, 0), 1);
        CHECKS.same("the fewest", tunes.stretch(1, 19), 1);
        tunes.exchange();
        CHECKS.same("the most, exchanged", tunes.stretch(1, 0), 20);
        CHECKS.same("the fewest, exchanged", tunes.stretch(0, 19), 1);
        tunes.setBound(18);
        CHECKS.same("a match before, none now", tunes.stretch(1, 0), 0);
        CHECKS.same("a match before, none now", tunes.stretch(0, 19), 0);
        SlowTunes one = Checks.tunesOf(Checks.row(1), NONE);
        CHECKS.same("the tune 1 empty", one.stretch(0, 0), 0);
        CHECKS.sentence("Promise 36", "Throws IndexOutOfBoundsException if there is no such tune or note");
        CHECKS.refused("stretch(1, 0) of an empty tune", one, Checks.NO_INDEX, () -> one.stretch(1, 0));
        for (int far : Checks.row(-1, 2, Integer.MIN_VALUE, Integer.MAX_VALUE)) {
            CHECKS.refused("stretch(" + far + ", 0)", one, Checks.NO_INDEX, () -> one.stretch(far, 0));
            CHECKS.refused("stretch(0, " + far + ")", one, Checks.NO_INDEX, () -> one.stretch(0, far));
        }
        CHECKS.refused("stretch(0, 1) of one note", one, Checks.NO_INDEX, () -> one.stretch(0, 1));
        CHECKS.refused("stretch(0, 20) of 20", tunes, Checks.NO_INDEX, () -> tunes.stretch(0, 20));
        CHECKS.refused("stretch(1, 1) of one note", tunes, Checks.NO_INDEX, () -> tunes.stretch(1, 1));
    }

    private static void longestStretch() {
        CHECKS.sentence("Promise 37", "Returns the stretch, 0 if there is no match");
        SlowTunes tunes = alike(20, 1);
        CHECKS.same("the least one", tunes.longestStretch(0), 1);
        CHECKS.same("the greatest one", tunes.longestStretch(1), 20);
        CHECKS.same("of the last note", corner().longestStretch(0), 19);
        CHECKS.same("of the first note", corner().longestStretch(1), 19);
        tunes.setBound(18);
        CHECKS.same("a match before, none now", tunes.longestStretch(1), 0);
        for (SlowTunes none : unmatched()) {
            CHECKS.same("no match", none.longestStretch(0), 0);
            CHECKS.same("no match", none.longestStretch(1), 0);
        }
        CHECKS.sentence("Promise 37", "Throws IndexOutOfBoundsException if there is no such tune");
        for (int far : Checks.row(-1, 2, Integer.MIN_VALUE, Integer.MAX_VALUE)) {
            CHECKS.refused("longestStretch(" + far + ")", tunes, Checks.NO_INDEX, () -> tunes.longestStretch(far));
        }
    }

    private static void holds() {
        CHECKS.sentence("Promise 38", "the number of steps of the first best match by which only one tune goes on");
        CHECKS.same("of one pair", alike(1, 1).holds(), 0);
        CHECKS.same("of 20 and 20 alike", alike(20, 20).holds(), 0);
        CHECKS.same("of the tune 1 alone", alike(1, 20).holds(), 19);
        CHECKS.same("of the tune 0 alone", alike(20, 1).holds(), 19);
        CHECKS.same("the most", corner().holds(), 36);
        CHECKS.sentence("Promise 38", "0 if there is no match");
        for (SlowTunes none : unmatched()) {
            CHECKS.same("holds()", none.holds(), 0);
        }
        SlowTunes tunes = alike(1, 20);
        CHECKS.same("a match now", tunes.holds(), 19);
        tunes.setBound(18);
        CHECKS.same("none then", tunes.holds(), 0);
    }

    private static void counted(long due, int bound, int[] zero, int[] one) {
        SlowTunes tunes = Checks.tunesOf(zero, one);
        tunes.setHold(0);
        tunes.setBound(bound);
        CHECKS.same("of " + zero.length + " and " + one.length + " notes", tunes.bestMatches(), due);
        tunes.exchange();
        CHECKS.same("of " + one.length + " and " + zero.length + " notes", tunes.bestMatches(), due);
        tunes.exchange();
        tunes.flip(0);
        tunes.flip(1);
        if (zero.length == one.length || bound == 20) {
            CHECKS.same("of both backwards", tunes.bestMatches(), due);
        }
    }

    private static void bestMatches() {
        CHECKS.sentence("Promise 39", "Returns the number of best matches");
        counted(1, 20, Checks.row(1), Checks.row(60));
        counted(1, 20, Checks.repeated(6, 20), Checks.row(6));
        counted(3, 20, Checks.repeated(6, 2), Checks.repeated(6, 2));
        CHECKS.sentence("Promise 39", "up to 1000000");
        counted(999999, 20, Checks.row(0, 0, 0, 0, 3, 3, 3, 3, 3, 3, 0, 0, 0, 1, 1, 2, 2),
                Checks.row(0, 0, 2, 2, 2, 2, 2, 2, 2, 2, 2, 2, 2, 2, 2, 2, 0, 0, 0, 0));
        counted(1000000, 20, Checks.row(0, 0, 0, 1, 1, 1, 0, 0, 0, 1, 1, 1, 1),
                Checks.row(1, 1, 1, 1, 1, 1, 1, 1, 1, 0, 0, 1, 0, 0, 0, 1, 1, 1));
        // 1000002 of them, by a count without a limit.
        counted(1000000, 20, Checks.row(0, 1, 1, 0, 0, 0, 1, 1, 0, 0, 0, 0, 0, 0, 0, 0),
                Checks.row(0, 0, 0, 0, 0, 1, 1, 0, 1, 0, 0, 0, 0, 0, 0, 0, 1, 0, 0, 0));
        // Far more than an int holds.
        counted(1000000, 20, Checks.repeated(6, 20), Checks.repeated(6, 20));
        counted(1000000, 1, Checks.repeated(6, 20), Checks.repeated(6, 20));
        counted(1, 0, Checks.repeated(6, 20), Checks.repeated(6, 20));
        CHECKS.sentence("Promise 39", "0 if there is no match");
        for (SlowTunes none : unmatched()) {
            CHECKS.same("bestMatches()", none.bestMatches(), 0);
        }
        SlowTunes tunes = alike(1, 20);
        CHECKS.same("a match now", tunes.bestMatches(), 1);
        tunes.setBound(18);
        CHECKS.same("none then", tunes.bestMatches(), 0);
    }

    private static void evenShare() {
        CHECKS.sentence("Promise 47", "the pairs less its holds, as a double, divided by its pairs");
        CHECKS.sameShare("of one pair", alike(1, 1).evenShare(), 1.0);
        CHECKS.sameShare("of 20 pairs without a hold", alike(20, 20).evenShare(), 1.0);
        CHECKS.sameShare("the least one", alike(1, 20).evenShare(), 0.05);
        CHECKS.sameShare("the least one", alike(20, 1).evenShare(), 0.05);
        CHECKS.sameShare("of 3 pairs", alike(3, 1).evenShare(), 1.0 / 3.0);
        CHECKS.sameShare("of the most pairs", corner().evenShare(), 2.0 / 38.0);
        CHECKS.sentence("Promise 47", "0.0 if there is no match");
        for (SlowTunes none : unmatched()) {
            CHECKS.sameShare("evenShare()", none.evenShare(), 0.0);
        }
        SlowTunes tunes = alike(2, 1);
        CHECKS.sameShare("a match now", tunes.evenShare(), 0.5);
        tunes.setBound(0);
        CHECKS.sameShare("none then", tunes.evenShare(), 0.0);
    }
}
