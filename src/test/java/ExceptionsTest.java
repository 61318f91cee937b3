import java.util.ArrayList;
import java.util.List;

/** "Exceptions": a call that throws changes nothing, and of several exceptions the one that is named first is thrown. */
public final class ExceptionsTest {
    private static final Checks CHECKS = new Checks("ExceptionsTest");

    public static void main(String[] args) {
        severalApply();
        tunesAreRefused();
        notesAreRefused();
        numbersAreRefused();
        fullOnesAreRefused();
        lookedAtWithoutMatch();
        newOneRefuses();
        CHECKS.finish();
    }

    /** Both ends of the pitches, a full tune, all settings changed, a stop, a snapshot, six states and a full buffer. */
    private static SlowTunes full() {
        SlowTunes tunes = Checks.tunesOf(Checks.rising(0, 20), Checks.rising(50, 11));
        tunes.setNote(0, 19, 60);
        tunes.setBound(12);
        tunes.setHold(3);
        tunes.keep();
        tunes.setNote(1, 0, 0);
        Checks.write(tunes, "judge:1;flip0;raise0:1");
        tunes.work();
        tunes.setHold(4);
        tunes.flip(1);
        tunes.setJudge(2);
        tunes.setNote(1, 3, 7);
        Checks.write(tunes, "flip0;".repeat(10));
        return tunes;
    }

    /** Without a match, though no tune is empty; the latest text was worked to its end. */
    private static SlowTunes unmatched() {
        SlowTunes tunes = full();
        tunes.clearBuffer();
        Checks.write(tunes, "bound:8;sing0:60,0");
        tunes.work();
        Checks.write(tunes, "slow0");
        return tunes;
    }

    /** The same, with an error behind a text that is whole. */
    private static SlowTunes withError() {
        SlowTunes tunes = unmatched();
        tunes.append('x');
        return tunes;
    }

    /** All that later calls can tell of an object: it is used up by this. */
    private static List<Long> story(SlowTunes tunes) {
        List<Long> told = new ArrayList<>();
        told.add(tunes.digest());
        told.add((long) tunes.firstError());
        for (int left = tunes.savedStates(); left > 0; left--) {
            told.add((long) tunes.undo());
            told.add(tunes.digest());
        }
        try {
            told.add((long) tunes.restore());
        } catch (IllegalStateException thrown) {
            told.add(-1L);
        }
        told.add(tunes.digest());
        told.add((long) tunes.clearBuffer());
        return told;
    }

    private interface Maker {
        SlowTunes make();
    }

    private static void refused(String call, Class<? extends RuntimeException> due, Maker maker, Checks.Call made) {
        SlowTunes tunes = maker.make();
        CHECKS.refused(call, tunes, due, () -> made.on(tunes));
        CHECKS.same(call + ": what is left behind it", story(tunes).equals(story(maker.make())), true);
    }

    private static void ofFull(String call, Class<? extends RuntimeException> due, Checks.Call made) {
        refused(call, due, ExceptionsTest::full, made);
    }

    private static void ofUnmatched(String call, Class<? extends RuntimeException> due, Checks.Call made) {
        refused(call, due, ExceptionsTest::unmatched, made);
    }

    private static void ofNew(String call, Class<? extends RuntimeException> due, Checks.Call made) {
        refused(call, due, SlowTunes::new, made);
    }

    private static void severalApply() {
        CHECKS.sentence("Exceptions", "If several exceptions apply, the one that is named first in the throws clause is thrown");
        ofFull("addNote, no tune and no pitch", Checks.NO_INDEX, tunes -> tunes.addNote(2, 61));
        ofFull("addNote, no pitch and a full tune", Checks.BAD_NUMBER, tunes -> tunes.addNote(0, 61));
        ofFull("addNote, no pitch and a full tune", Checks.BAD_NUMBER, tunes -> tunes.addNote(0, -1));
        ofFull("setNote, no tune and no pitch", Checks.NO_INDEX, tunes -> tunes.setNote(-1, 0, 61));
        ofFull("setNote, no note and no pitch", Checks.NO_INDEX, tunes -> tunes.setNote(0, 20, -1));
        ofFull("shift, no tune and no shift", Checks.NO_INDEX, tunes -> tunes.shift(2, 13));
        ofFull("shift, no shift and pitches beyond 60", Checks.BAD_NUMBER, tunes -> tunes.shift(0, 13));
        ofFull("shift, no shift and pitches below 0", Checks.BAD_NUMBER, tunes -> tunes.shift(0, -13));
        ofFull("append, no code and a full buffer", Checks.BAD_NUMBER, tunes -> tunes.append(127));
        ofFull("append, no code and a full buffer", Checks.BAD_NUMBER, tunes -> tunes.append(32));
        ofUnmatched("costWithShift, no shift and no match", Checks.BAD_NUMBER, tunes -> tunes.costWithShift(13));
        ofUnmatched("costWithShift, no shift and no match", Checks.BAD_NUMBER, tunes -> tunes.costWithShift(-13));
    }

    private static void tunesAreRefused() {
        CHECKS.sentence("Exceptions", "A call that throws an exception changes nothing: no such tune");
        for (int tune : Checks.row(-1, 2, Integer.MIN_VALUE, Integer.MAX_VALUE)) {
            ofFull("addNote", Checks.NO_INDEX, tunes -> tunes.addNote(tune, 5));
            ofFull("setNote", Checks.NO_INDEX, tunes -> tunes.setNote(tune, 0, 5));
            ofFull("dropNote", Checks.NO_INDEX, tunes -> tunes.dropNote(tune, 0));
            ofFull("shift", Checks.NO_INDEX, tunes -> tunes.shift(tune, 0));
            ofFull("slow", Checks.NO_INDEX, tunes -> tunes.slow(tune));
            ofFull("flip", Checks.NO_INDEX, tunes -> tunes.flip(tune));
            ofFull("notes", Checks.NO_INDEX, tunes -> tunes.notes(tune));
            ofFull("pitch", Checks.NO_INDEX, tunes -> tunes.pitch(tune, 0));
            ofFull("noteOfPair", Checks.NO_INDEX, tunes -> tunes.noteOfPair(tune, 0));
            ofFull("stretch", Checks.NO_INDEX, tunes -> tunes.stretch(tune, 0));
            ofFull("longestStretch", Checks.NO_INDEX, tunes -> tunes.longestStretch(tune));
        }
    }

    private static void notesAreRefused() {
        CHECKS.sentence("Exceptions", "A call that throws an exception changes nothing: no such note or pair");
        for (int note : Checks.row(-1, 20, Integer.MIN_VALUE, Integer.MAX_VALUE)) {
            ofFull("setNote", Checks.NO_INDEX, tunes -> tunes.setNote(0, note, 5));
            ofFull("dropNote", Checks.NO_INDEX, tunes -> tunes.dropNote(0, note));
            ofFull("pitch", Checks.NO_INDEX, tunes -> tunes.pitch(0, note));
            ofFull("stretch", Checks.NO_INDEX, tunes -> tunes.stretch(0, note));
            ofFull("unlike", Checks.NO_INDEX, tunes -> tunes.unlike(note, 0));
            ofFull("costTo", Checks.NO_INDEX, tunes -> tunes.costTo(note, 0));
        }
        for (int note : Checks.row(-1, 11, Integer.MIN_VALUE, Integer.MAX_VALUE)) {
            ofFull("setNote of 11", Checks.NO_INDEX, tunes -> tunes.setNote(1, note, 5));
            ofFull("dropNote of 11", Checks.NO_INDEX, tunes -> tunes.dropNote(1, note));
            ofFull("pitch of 11", Checks.NO_INDEX, tunes -> tunes.pitch(1, note));
            ofFull("stretch of 11", Checks.NO_INDEX, tunes -> tunes.stretch(1, note));
            ofFull("unlike of 11", Checks.NO_INDEX, tunes -> tunes.unlike(0, note));
            ofFull("costTo of 11", Checks.NO_INDEX, tunes -> tunes.costTo(0, note));
        }
        for (int pair : Checks.row(-1, full().pairs(), Integer.MIN_VALUE, Integer.MAX_VALUE)) {
            ofFull("noteOfPair", Checks.NO_INDEX, tunes -> tunes.noteOfPair(0, pair));
            ofFull("noteOfPair", Checks.NO_INDEX, tunes -> tunes.noteOfPair(1, pair));
        }
    }

    private static void numbersAreRefused() {
        CHECKS.sentence("Exceptions", "A call that throws an exception changes nothing: a number out of range");
        for (int far : Checks.row(-1, 61, Integer.MIN_VALUE, Integer.MAX_VALUE)) {
            ofFull("addNote", Checks.BAD_NUMBER, tunes -> tunes.addNote(1, far));
            ofFull("setNote", Checks.BAD_NUMBER, tunes -> tunes.setNote(1, 10, far));
            ofFull("setHold", Checks.BAD_NUMBER, tunes -> tunes.setHold(far));
            ofFull("setBound", Checks.BAD_NUMBER, tunes -> tunes.setBound(far));
            ofFull("setJudge", Checks.BAD_NUMBER, tunes -> tunes.setJudge(far));
            ofFull("costWithBound", Checks.BAD_NUMBER, tunes -> tunes.costWithBound(far));
        }
        ofFull("setHold", Checks.BAD_NUMBER, tunes -> tunes.setHold(51));
        ofFull("setBound", Checks.BAD_NUMBER, tunes -> tunes.setBound(21));
        ofFull("setJudge", Checks.BAD_NUMBER, tunes -> tunes.setJudge(4));
        ofFull("costWithBound", Checks.BAD_NUMBER, tunes -> tunes.costWithBound(21));
        for (int by : Checks.row(-13, 13, Integer.MIN_VALUE, Integer.MAX_VALUE)) {
            ofFull("shift", Checks.BAD_NUMBER, tunes -> tunes.shift(1, by));
            ofFull("costWithShift", Checks.BAD_NUMBER, tunes -> tunes.costWithShift(by));
        }
        for (int code : Checks.row(32, 127, Integer.MIN_VALUE, Integer.MAX_VALUE)) {
            ofUnmatched("append", Checks.BAD_NUMBER, tunes -> tunes.append(code));
        }
    }

    private static void fullOnesAreRefused() {
        CHECKS.sentence("Exceptions", "A call that throws an exception changes nothing: what is full, or would be out of range");
        ofFull("addNote to 20 notes", Checks.BAD_STATE, tunes -> tunes.addNote(0, 5));
        ofFull("slow of 20 notes", Checks.BAD_STATE, tunes -> tunes.slow(0));
        ofFull("slow of 11 notes", Checks.BAD_STATE, tunes -> tunes.slow(1));
        ofFull("shift beyond 60", Checks.BAD_STATE, tunes -> tunes.shift(0, 1));
        ofFull("shift below 0", Checks.BAD_STATE, tunes -> tunes.shift(0, -1));
        ofFull("append to 60 characters", Checks.BAD_STATE, tunes -> tunes.append(65));
        CHECKS.sentence("Exceptions", "A call that throws an exception changes nothing: what is not complete");
        ofFull("work of a text that is cut", Checks.BAD_NUMBER, tunes -> tunes.work());
        ofNew("work of nothing", Checks.BAD_NUMBER, tunes -> tunes.work());
        refused("work of an error", Checks.BAD_NUMBER, ExceptionsTest::withError, tunes -> tunes.work());
    }

    private static void lookedAtWithoutMatch() {
        CHECKS.sentence("Exceptions", "A call that throws an exception changes nothing: no match, no stop");
        ofUnmatched("cost", Checks.BAD_STATE, tunes -> tunes.cost());
        ofUnmatched("costFromEnd", Checks.BAD_STATE, tunes -> tunes.costFromEnd());
        ofUnmatched("pairs", Checks.BAD_STATE, tunes -> tunes.pairs());
        ofUnmatched("noteOfPair", Checks.NO_INDEX, tunes -> tunes.noteOfPair(0, 0));
        ofUnmatched("noteOfPair", Checks.NO_INDEX, tunes -> tunes.noteOfPair(1, 0));
        ofUnmatched("costWithShift", Checks.BAD_STATE, tunes -> tunes.costWithShift(12));
        ofUnmatched("bestShift", Checks.BAD_STATE, tunes -> tunes.bestShift());
        ofUnmatched("stoppedPart", Checks.BAD_STATE, tunes -> tunes.stoppedPart());
        ofUnmatched("whyStopped", Checks.BAD_STATE, tunes -> tunes.whyStopped());
    }

    private static void newOneRefuses() {
        CHECKS.sentence("Exceptions", "A call that throws an exception changes nothing: of a new object");
        ofNew("undo", Checks.BAD_STATE, tunes -> tunes.undo());
        ofNew("restore", Checks.BAD_STATE, tunes -> tunes.restore());
        ofNew("stoppedPart", Checks.BAD_STATE, tunes -> tunes.stoppedPart());
        ofNew("whyStopped", Checks.BAD_STATE, tunes -> tunes.whyStopped());
        ofNew("setNote", Checks.NO_INDEX, tunes -> tunes.setNote(0, 0, 5));
        ofNew("dropNote", Checks.NO_INDEX, tunes -> tunes.dropNote(1, 0));
        ofNew("pitch", Checks.NO_INDEX, tunes -> tunes.pitch(0, 0));
        ofNew("unlike", Checks.NO_INDEX, tunes -> tunes.unlike(0, 0));
        ofNew("costTo", Checks.NO_INDEX, tunes -> tunes.costTo(0, 0));
        ofNew("stretch", Checks.NO_INDEX, tunes -> tunes.stretch(1, 0));
        ofNew("noteOfPair", Checks.NO_INDEX, tunes -> tunes.noteOfPair(1, 0));
        ofNew("cost", Checks.BAD_STATE, tunes -> tunes.cost());
        ofNew("costFromEnd", Checks.BAD_STATE, tunes -> tunes.costFromEnd());
        ofNew("pairs", Checks.BAD_STATE, tunes -> tunes.pairs());
        ofNew("partCost", Checks.BAD_STATE, tunes -> tunes.partCost());
        ofNew("partBegin", Checks.BAD_STATE, tunes -> tunes.partBegin());
        ofNew("partEnd", Checks.BAD_STATE, tunes -> tunes.partEnd());
        ofNew("costWithShift", Checks.BAD_STATE, tunes -> tunes.costWithShift(0));
        ofNew("bestShift", Checks.BAD_STATE, tunes -> tunes.bestShift());
    }
}
