/** The boundaries that the document names for parts: "Parts", and promises 40 to 42. */
public final class PartsBoundsTest {
    private static final int[] NONE = {};
    private static final Checks CHECKS = new Checks("PartsBoundsTest");

    public static void main(String[] args) {
        noBound();
        anyNoteOfTuneOne();
        wholeTuneZero();
        severalBest();
        partCost();
        partBegin();
        partEnd();
        emptyTunes();
        CHECKS.finish();
    }

    private static void samePart(String what, SlowTunes tunes, int cost, int begin, int end) {
        CHECKS.same("partCost() " + what, tunes.partCost(), cost);
        CHECKS.same("partBegin() " + what, tunes.partBegin(), begin);
        CHECKS.same("partEnd() " + what, tunes.partEnd(), end);
    }

    /** The tune 1 is 50 throughout, but for some notes from an index on. */
    private static int[] among(int index, int... others) {
        int[] pitches = Checks.repeated(50, 20);
        System.arraycopy(others, 0, pitches, index, others.length);
        return pitches;
    }

    private static void noBound() {
        CHECKS.sentence("Parts", "but for the bound (there is none)");
        SlowTunes apart = Checks.tunesOf(Checks.row(10), among(19, 10));
        apart.setBound(0);
        CHECKS.same("isMatched()", apart.isMatched(), false);
        samePart("19 ahead, the bound 0", apart, 0, 19, 19);
        SlowTunes held = Checks.tunesOf(Checks.repeated(7, 20), Checks.row(7));
        held.setBound(0);
        samePart("a note held for 20, the bound 0", held, 19, 0, 0);
        SlowTunes slower = Checks.tunesOf(Checks.row(1, 30, 1), among(5, 1, 30, 30, 30, 30, 30, 30, 1));
        slower.setBound(0);
        samePart("a note held for six, the bound 0", slower, 5, 5, 12);
    }

    private static void anyNoteOfTuneOne() {
        CHECKS.sentence("Parts", "and begins with any note of the tune 1, and ends with any one");
        for (int index = 0; index <= 19; index++) {
            samePart("of one note", Checks.tunesOf(Checks.row(10), among(index, 10)), 0, index, index);
        }
        for (int index = 0; index <= 18; index++) {
            samePart("of two notes", Checks.tunesOf(Checks.row(10, 20), among(index, 10, 20)), 0, index, index + 1);
        }
        samePart("of all 20 notes", Checks.tunesOf(Checks.rising(0, 20), Checks.rising(0, 20)), 0, 0, 19);
        samePart("of all but the first", Checks.tunesOf(Checks.rising(1, 19), Checks.rising(0, 20)), 0, 1, 19);
        samePart("of all but the last", Checks.tunesOf(Checks.rising(0, 19), Checks.rising(0, 20)), 0, 0, 18);
    }

    private static void wholeTuneZero() {
        CHECKS.sentence("Parts", "(of the tune 0 with the first and the last)");
        SlowTunes tunes = Checks.tunesOf(Checks.row(60, 10, 20, 60), Checks.row(10, 20));
        samePart("the tune 0 is the longer one", tunes, 92, 0, 1);
        samePart("its first note alone is like", Checks.tunesOf(Checks.row(10, 60), Checks.row(10, 9)), 51, 0, 0);
        samePart("its last note alone is like", Checks.tunesOf(Checks.row(60, 10), Checks.row(30, 10)), 30, 0, 1);
    }

    private static void severalBest() {
        CHECKS.sentence("Parts", "of several the one that ends earlier");
        SlowTunes all = Checks.tunesOf(Checks.row(7), Checks.repeated(7, 20));
        samePart("of 20 notes alike", all, 0, 0, 0);
        all.setHold(0);
        samePart("of 20 notes alike, holds free", all, 0, 0, 0);
        samePart("the last one of three", Checks.tunesOf(Checks.row(7), Checks.row(9, 8, 8)), 1, 1, 1);
        samePart("as unlike above as below", Checks.tunesOf(Checks.row(7), Checks.row(5, 6, 8)), 1, 1, 1);
        CHECKS.sentence("Parts", "of several of these the one that begins later");
        SlowTunes later = Checks.tunesOf(Checks.row(5, 9), Checks.row(5, 5, 5, 9));
        later.setHold(0);
        samePart("holds free", later, 0, 2, 3);
        // Beginning with the note 0 or 1, it ends with the note 1, and costs as much each time.
        samePart("by a hold or by a step", Checks.tunesOf(Checks.row(8, 8), Checks.row(7, 8, 20)), 1, 1, 1);
        samePart("by a step or by a hold", Checks.tunesOf(Checks.row(60, 10), Checks.row(9, 10)), 51, 1, 1);
        // The one that begins later ends later as well.
        SlowTunes both = Checks.tunesOf(Checks.row(5, 9), Checks.row(5, 9, 5, 9));
        both.setHold(0);
        samePart("the earlier end first", both, 0, 0, 1);
        // Behind the row 0 too: what begins later wins at the pair of the second notes.
        SlowTunes third = Checks.tunesOf(Checks.row(4, 5, 9), Checks.row(4, 4, 4, 5, 9));
        third.setHold(0);
        samePart("three notes, holds free", third, 0, 2, 4);
    }

    private static void partCost() {
        CHECKS.sentence("Promise 40", "Returns the least cost of a part match");
        samePart("the shortest", Checks.tunesOf(Checks.row(0), Checks.row(0)), 0, 0, 0);
        SlowTunes dearest = Checks.tunesOf(Checks.repeated(0, 20), Checks.row(60));
        dearest.setJudge(1);
        dearest.setHold(50);
        CHECKS.same("the greatest one", dearest.partCost(), 20 * 3600 + 19 * 50);
        dearest.setHold(0);
        CHECKS.same("holds free", dearest.partCost(), 20 * 3600);
        SlowTunes long20 = Checks.tunesOf(Checks.repeated(0, 20), Checks.repeated(60, 20));
        long20.setJudge(1);
        long20.setHold(50);
        samePart("of 20 and 20", long20, 72000, 0, 19);
    }

    private static void partBegin() {
        CHECKS.sentence("Promise 41", "the note of the tune 1 with which the best part match begins");
        CHECKS.same("the first note", Checks.tunesOf(Checks.row(10), among(0, 10)).partBegin(), 0);
        CHECKS.same("the last note", Checks.tunesOf(Checks.row(10), among(19, 10)).partBegin(), 19);
        CHECKS.same("the last but one", Checks.tunesOf(Checks.row(10, 11), among(18, 10, 11)).partBegin(), 18);
        SlowTunes step = Checks.tunesOf(Checks.row(10, 20), Checks.row(10, 11, 20));
        step.setHold(50);
        samePart("of a step, another one beginning beside it", step, 1, 1, 2);
        SlowTunes hold = Checks.tunesOf(Checks.row(10, 40, 10), Checks.row(20, 10, 40, 40, 10));
        hold.setHold(11);
        samePart("of a hold, another one beginning beside it", hold, 11, 1, 4);
    }

    private static void partEnd() {
        CHECKS.sentence("Promise 42", "the note of the tune 1 with which the best part match ends");
        CHECKS.same("the first note", Checks.tunesOf(Checks.row(10), among(0, 10)).partEnd(), 0);
        CHECKS.same("the last note", Checks.tunesOf(Checks.row(10), among(19, 10)).partEnd(), 19);
        CHECKS.same("the second note", Checks.tunesOf(Checks.row(10, 11), among(0, 10, 11)).partEnd(), 1);
    }

    private static void emptyTunes() {
        SlowTunes dropped = Checks.tunesOf(Checks.row(1), Checks.row(1));
        CHECKS.sentence("Promises 40 to 42", "Throws IllegalStateException if a tune is empty");
        CHECKS.same("none", dropped.partCost(), 0);
        dropped.dropNote(0, 0);
        SlowTunes[] all = {new SlowTunes(), Checks.tunesOf(Checks.rising(0, 20), NONE), Checks.tunesOf(NONE, Checks.row(1)), dropped};
        for (SlowTunes tunes : all) {
            CHECKS.refused("partCost()", tunes, Checks.BAD_STATE, () -> tunes.partCost());
            CHECKS.refused("partBegin()", tunes, Checks.BAD_STATE, () -> tunes.partBegin());
            CHECKS.refused("partEnd()", tunes, Checks.BAD_STATE, () -> tunes.partEnd());
        }
        dropped.addNote(0, 3);
        samePart("a note again", dropped, 2, 0, 0);
    }
}
