/** The boundaries that the document names for tunes: Terms, and promises 1 to 8, 23, 24, 28 and 29. */
public final class TunesBoundsTest {
    private static final int[] NONE = {};
    private static final int[] NO_TUNES = {-1, 2, Integer.MIN_VALUE, Integer.MAX_VALUE};
    private static final int[] NO_PITCHES = {-1, 61, Integer.MIN_VALUE, Integer.MAX_VALUE};
    private static final int[] NO_SHIFTS = {-13, 13, Integer.MIN_VALUE, Integer.MAX_VALUE};
    private static final Checks CHECKS = new Checks("TunesBoundsTest");

    public static void main(String[] args) {
        termsOfTunes();
        termsOfJudges();
        newObject();
        addNote();
        setNote();
        dropNote();
        shift();
        slow();
        flip();
        exchange();
        notesAndPitch();
        unlike();
        rises();
        CHECKS.finish();
    }

    /** Both tunes have 20 notes: 0 to 19, and 41 to 60. */
    private static SlowTunes full() {
        return Checks.tunesOf(Checks.rising(0, 20), Checks.rising(41, 20));
    }

    private static void refusesTunes(SlowTunes tunes, String call, Checks.CallWith made) {
        for (int wrong : NO_TUNES) {
            CHECKS.refused(call + " of the tune " + wrong, tunes, Checks.NO_INDEX, () -> made.on(wrong));
        }
    }

    private static void refusesNotes(SlowTunes tunes, String call, int length, Checks.CallWith made) {
        for (int wrong : Checks.row(-1, length, length + 1, Integer.MIN_VALUE, Integer.MAX_VALUE)) {
            CHECKS.refused(call + " of the note " + wrong, tunes, Checks.NO_INDEX, () -> made.on(wrong));
        }
    }

    private static void termsOfTunes() {
        CHECKS.sentence("Terms", "There are two tunes, 0 and 1");
        SlowTunes tunes = Checks.tunesOf(Checks.row(3), Checks.row(4, 5));
        CHECKS.sameTune("the smallest number", tunes, 0, 3);
        CHECKS.sameTune("the largest number", tunes, 1, 4, 5);
        refusesTunes(tunes, "notes()", tune -> tunes.notes(tune));
        CHECKS.sentence("Terms", "of at most 20 notes each");
        SlowTunes full = full();
        CHECKS.same("notes(0)", full.notes(0), 20);
        CHECKS.same("notes(1)", full.notes(1), 20);
        CHECKS.refused("the note 21 of the tune 0", full, Checks.BAD_STATE, () -> full.addNote(0, 1));
        CHECKS.refused("the note 21 of the tune 1", full, Checks.BAD_STATE, () -> full.addNote(1, 1));
        CHECKS.sentence("Terms", "numbered from 0");
        CHECKS.same("the first note", full.pitch(1, 0), 41);
        CHECKS.same("the note 20", full.pitch(1, 19), 60);
        refusesNotes(full, "pitch()", 20, note -> full.pitch(1, note));
        CHECKS.sentence("Terms", "a note has a pitch, 0 to 60");
        CHECKS.same("the lowest", full.pitch(0, 0), 0);
        CHECKS.same("the highest", full.pitch(1, 19), 60);
        CHECKS.sentence("Terms", "Tunes are empty at first");
        CHECKS.sameTune("at first", new SlowTunes(), 0);
        CHECKS.sameTune("at first", new SlowTunes(), 1);
    }

    private static void judged(int judge, int d, int due) {
        int[][] pairs = {{60, 60 - d}, {60 - d, 60}, {0, d}, {d, 0}};
        for (int[] pair : pairs) {
            SlowTunes tunes = Checks.tunesOf(Checks.row(pair[0]), Checks.row(pair[1]));
            tunes.setJudge(judge);
            CHECKS.same("the judge " + judge + " of " + pair[0] + " and " + pair[1], tunes.unlike(0, 0), due);
        }
    }

    private static void termsOfJudges() {
        CHECKS.sentence("Terms", "by the difference d of their pitches, without its sign: 0 (plain): d");
        judged(0, 0, 0);
        judged(0, 1, 1);
        judged(0, 60, 60);
        CHECKS.sentence("Terms", "1 (strict): d times d");
        judged(1, 0, 0);
        judged(1, 1, 1);
        judged(1, 59, 3481);
        judged(1, 60, 3600);
        CHECKS.sentence("Terms", "2 (of octaves): what d leaves, divided by 12, or 12 less that, the lesser one");
        int[] due = {0, 1, 2, 3, 4, 5, 6, 5, 4, 3, 2, 1};
        for (int d = 0; d <= 60; d++) {
            judged(2, d, due[d % due.length]);
        }
        CHECKS.sentence("Terms", "3 (kind): 0, if d is 0, otherwise 1");
        judged(3, 0, 0);
        judged(3, 1, 1);
        judged(3, 12, 1);
        judged(3, 60, 1);
    }

    private static void newObject() {
        SlowTunes tunes = new SlowTunes();
        CHECKS.sentence("Promise 1", "Creates empty tunes");
        CHECKS.same("notes(0)", tunes.notes(0), 0);
        CHECKS.same("notes(1)", tunes.notes(1), 0);
        CHECKS.sentence("Promise 1", "settings as told above");
        CHECKS.same("bound()", tunes.bound(), 20);
        CHECKS.same("hold()", tunes.hold(), 1);
        CHECKS.same("judge()", tunes.judge(), 0);
        CHECKS.sentence("Promise 1", "no snapshot");
        CHECKS.refused("restore()", tunes, Checks.BAD_STATE, () -> tunes.restore());
        CHECKS.sentence("Promise 1", "an empty buffer");
        CHECKS.same("clearBuffer()", tunes.clearBuffer(), 0);
        CHECKS.same("the first append()", tunes.append(33), 1);
        CHECKS.same("savedStates()", tunes.savedStates(), 0);
    }

    private static void addNote() {
        CHECKS.sentence("Promise 2", "Adds a note behind a tune");
        SlowTunes tunes = Checks.tunesOf(Checks.row(1, 2), NONE);
        CHECKS.same("behind two", tunes.addNote(0, 3), 3);
        CHECKS.sameTune("behind two", tunes, 0, 1, 2, 3);
        CHECKS.same("to an empty one", tunes.addNote(1, 9), 1);
        CHECKS.sameTune("to an empty one", tunes, 1, 9);
        CHECKS.sentence("Promise 2", "Throws IndexOutOfBoundsException if there is no such tune");
        refusesTunes(tunes, "addNote()", tune -> tunes.addNote(tune, 5));
        CHECKS.sentence("Promise 2", "pitch: 0 to 60");
        CHECKS.same("the lowest", tunes.addNote(1, 0), 2);
        CHECKS.same("the highest", tunes.addNote(1, 60), 3);
        CHECKS.sameTune("lowest and highest", tunes, 1, 9, 0, 60);
        CHECKS.sentence("Promise 2", "Throws IllegalArgumentException if pitch is out of range");
        for (int wrong : NO_PITCHES) {
            CHECKS.refused("addNote(0, " + wrong + ")", tunes, Checks.BAD_NUMBER, () -> tunes.addNote(0, wrong));
        }
        CHECKS.sentence("Promise 2", "Returns the length of the tune then");
        SlowTunes growing = new SlowTunes();
        for (int length = 1; length <= 20; length++) {
            CHECKS.same("to the tune 1", growing.addNote(1, length), length);
        }
        CHECKS.same("to the tune 0, the other one being full", growing.addNote(0, 0), 1);
        CHECKS.sentence("Promise 2", "Throws IllegalStateException if the tune has 20 notes");
        CHECKS.refused("addNote(1, 0)", growing, Checks.BAD_STATE, () -> growing.addNote(1, 0));
        growing.dropNote(1, 7);
        CHECKS.same("a note of 20 dropped, another one", growing.addNote(1, 33), 20);
        CHECKS.refused("addNote(1, 0) again", growing, Checks.BAD_STATE, () -> growing.addNote(1, 0));
    }

    private static void setNote() {
        CHECKS.sentence("Promise 3", "note: its number");
        SlowTunes full = full();
        CHECKS.same("the first of 20", full.setNote(0, 0, 44), 0);
        CHECKS.same("the last of 20", full.setNote(0, 19, 45), 19);
        CHECKS.same("the first then", full.pitch(0, 0), 44);
        CHECKS.same("the last then", full.pitch(0, 19), 45);
        CHECKS.same("the one behind the first", full.pitch(0, 1), 1);
        CHECKS.same("the one ahead of the last", full.pitch(0, 18), 18);
        CHECKS.same("the first of the other tune", full.pitch(1, 0), 41);
        CHECKS.sentence("Promise 3", "pitch: 0 to 60; Returns the pitch before");
        CHECKS.same("the lowest", full.setNote(1, 3, 0), 44);
        CHECKS.same("the highest", full.setNote(1, 3, 60), 0);
        CHECKS.same("the same again", full.setNote(1, 3, 60), 60);
        CHECKS.sentence("Promise 3", "Throws IndexOutOfBoundsException if there is no such tune or note");
        refusesTunes(full, "setNote()", tune -> full.setNote(tune, 0, 5));
        refusesNotes(full, "setNote()", 20, note -> full.setNote(1, note, 5));
        SlowTunes fewer = Checks.tunesOf(Checks.row(1, 2, 3), Checks.row(4));
        fewer.dropNote(0, 0);
        refusesNotes(fewer, "setNote() behind a drop", 2, note -> fewer.setNote(0, note, 5));
        refusesNotes(fewer, "setNote() of the shorter tune", 1, note -> fewer.setNote(1, note, 5));
        SlowTunes empty = new SlowTunes();
        refusesNotes(empty, "setNote() of an empty tune", 0, note -> empty.setNote(0, note, 5));
        CHECKS.sentence("Promise 3", "Throws IllegalArgumentException if pitch is out of range");
        for (int wrong : NO_PITCHES) {
            CHECKS.refused("setNote(1, 0, " + wrong + ")", fewer, Checks.BAD_NUMBER, () -> fewer.setNote(1, 0, wrong));
        }
    }

    private static void dropNote() {
        CHECKS.sentence("Promise 4", "Takes a note out of a tune; those behind it move up");
        SlowTunes tunes = Checks.tunesOf(Checks.row(10, 20, 30, 40), Checks.row(7));
        CHECKS.same("in the middle", tunes.dropNote(0, 1), 20);
        CHECKS.sameTune("in the middle", tunes, 0, 10, 30, 40);
        CHECKS.same("the last one", tunes.dropNote(0, 2), 40);
        CHECKS.sameTune("the last one", tunes, 0, 10, 30);
        CHECKS.same("the first one", tunes.dropNote(0, 0), 10);
        CHECKS.sameTune("the first one", tunes, 0, 30);
        CHECKS.same("the only one", tunes.dropNote(0, 0), 30);
        CHECKS.sameTune("the only one", tunes, 0);
        CHECKS.sameTune("the other tune", tunes, 1, 7);
        SlowTunes full = full();
        CHECKS.same("the first of 20", full.dropNote(1, 0), 41);
        CHECKS.sameTune("the first of 20", full, 1, Checks.rising(42, 19));
        CHECKS.same("the last of 20", full.dropNote(0, 19), 19);
        CHECKS.sameTune("the last of 20", full, 0, Checks.rising(0, 19));
        CHECKS.sentence("Promise 4", "Returns its pitch");
        SlowTunes ends = Checks.tunesOf(Checks.row(0, 60), NONE);
        CHECKS.same("the highest", ends.dropNote(0, 1), 60);
        CHECKS.same("the lowest", ends.dropNote(0, 0), 0);
        CHECKS.sentence("Promise 4", "Throws IndexOutOfBoundsException if there is no such tune or note");
        refusesTunes(full, "dropNote()", tune -> full.dropNote(tune, 0));
        refusesNotes(full, "dropNote() of 19", 19, note -> full.dropNote(0, note));
        refusesNotes(ends, "dropNote() of an empty tune", 0, note -> ends.dropNote(0, note));
        SlowTunes filled = full();
        refusesNotes(filled, "dropNote() of 20", 20, note -> filled.dropNote(1, note));
    }

    private static void shift() {
        CHECKS.sentence("Promise 5", "by: -12 to 12");
        SlowTunes tunes = Checks.tunesOf(Checks.row(12, 48), Checks.row(30));
        CHECKS.same("the least one", tunes.shift(0, -12), 2);
        CHECKS.sameTune("the least one", tunes, 0, 0, 36);
        CHECKS.same("the greatest one", tunes.shift(0, 12), 2);
        CHECKS.sameTune("the greatest one", tunes, 0, 12, 48);
        CHECKS.same("none", tunes.shift(0, 0), 2);
        CHECKS.sameTune("none", tunes, 0, 12, 48);
        CHECKS.sameTune("the other tune", tunes, 1, 30);
        CHECKS.sentence("Promise 5", "Throws IndexOutOfBoundsException if there is no such tune");
        refusesTunes(tunes, "shift()", tune -> tunes.shift(tune, 1));
        CHECKS.sentence("Promise 5", "Throws IllegalArgumentException if by is out of range");
        for (int wrong : NO_SHIFTS) {
            CHECKS.refused("shift(1, " + wrong + ")", tunes, Checks.BAD_NUMBER, () -> tunes.shift(1, wrong));
        }
        CHECKS.sentence("Promise 5", "Throws IllegalStateException if a pitch would be out of range");
        tunes.shift(0, 12);
        CHECKS.sameTune("up to 60", tunes, 0, 24, 60);
        CHECKS.refused("the last one beyond 60", tunes, Checks.BAD_STATE, () -> tunes.shift(0, 1));
        SlowTunes low = Checks.tunesOf(Checks.row(1, 60), Checks.row(60, 0, 60, 59));
        CHECKS.same("down to 0", low.shift(0, -1), 2);
        CHECKS.sameTune("down to 0", low, 0, 0, 59);
        CHECKS.refused("the first one below 0", low, Checks.BAD_STATE, () -> low.shift(0, -1));
        CHECKS.refused("one in the middle below 0", low, Checks.BAD_STATE, () -> low.shift(1, -1));
        CHECKS.refused("the first one of four beyond 60", low, Checks.BAD_STATE, () -> low.shift(1, 1));
        CHECKS.same("by 0, pitches 0 and 60", low.shift(1, 0), 4);
        CHECKS.sentence("Promise 5", "Returns the length of the tune");
        SlowTunes full = full();
        CHECKS.same("20 notes", full.shift(0, 12), 20);
        CHECKS.sameTune("20 notes", full, 0, Checks.rising(12, 20));
        CHECKS.same("an empty tune up", new SlowTunes().shift(0, 12), 0);
        CHECKS.same("an empty tune down", new SlowTunes().shift(1, -12), 0);
    }

    private static void slow() {
        CHECKS.sentence("Promise 6", "Has each note of a tune sung twice, one behind the other");
        SlowTunes tunes = Checks.tunesOf(Checks.row(5, 9), Checks.row(7));
        CHECKS.same("two notes", tunes.slow(0), 4);
        CHECKS.sameTune("two notes", tunes, 0, 5, 5, 9, 9);
        CHECKS.same("one note", tunes.slow(1), 2);
        CHECKS.sameTune("one note", tunes, 1, 7, 7);
        CHECKS.sentence("Promise 6", "Returns the length of the tune then");
        SlowTunes empty = new SlowTunes();
        CHECKS.same("an empty tune 0", empty.slow(0), 0);
        CHECKS.same("an empty tune 1", empty.slow(1), 0);
        CHECKS.sameTune("an empty tune", empty, 0);
        CHECKS.sentence("Promise 6", "Throws IndexOutOfBoundsException if there is no such tune");
        refusesTunes(tunes, "slow()", tune -> tunes.slow(tune));
        CHECKS.sentence("Promise 6", "Throws IllegalStateException if there would be more than 20 notes");
        SlowTunes ten = Checks.tunesOf(Checks.rising(0, 10), Checks.rising(0, 11));
        CHECKS.same("10 notes", ten.slow(0), 20);
        CHECKS.sameTune("10 notes", ten, 0, 0, 0, 1, 1, 2, 2, 3, 3, 4, 4, 5, 5, 6, 6, 7, 7, 8, 8, 9, 9);
        CHECKS.refused("11 notes", ten, Checks.BAD_STATE, () -> ten.slow(1));
        CHECKS.refused("20 notes", ten, Checks.BAD_STATE, () -> ten.slow(0));
    }

    private static void flip() {
        CHECKS.sentence("Promise 7", "Has a tune sung backwards; Returns the length of the tune");
        SlowTunes tunes = Checks.tunesOf(Checks.row(1, 2, 3), Checks.row(8, 9));
        CHECKS.same("an odd length", tunes.flip(0), 3);
        CHECKS.sameTune("an odd length", tunes, 0, 3, 2, 1);
        CHECKS.same("an even length", tunes.flip(1), 2);
        CHECKS.sameTune("an even length", tunes, 1, 9, 8);
        SlowTunes one = Checks.tunesOf(NONE, Checks.row(4));
        CHECKS.same("no note", one.flip(0), 0);
        CHECKS.sameTune("no note", one, 0);
        CHECKS.same("one note", one.flip(1), 1);
        CHECKS.sameTune("one note", one, 1, 4);
        SlowTunes full = full();
        CHECKS.same("20 notes", full.flip(1), 20);
        for (int note = 0; note < 20; note++) {
            CHECKS.same("the note " + note + " of 20", full.pitch(1, note), 60 - note);
        }
        CHECKS.sentence("Promise 7", "Throws IndexOutOfBoundsException if there is no such tune");
        refusesTunes(tunes, "flip()", tune -> tunes.flip(tune));
    }

    private static void exchange() {
        CHECKS.sentence("Promise 8", "Lets the tunes change places; Returns the length of the tune 0 then");
        SlowTunes tunes = Checks.tunesOf(Checks.rising(0, 20), NONE);
        CHECKS.same("a full one and an empty one", tunes.exchange(), 0);
        CHECKS.sameTune("exchanged", tunes, 0);
        CHECKS.sameTune("exchanged", tunes, 1, Checks.rising(0, 20));
        CHECKS.same("back again", tunes.exchange(), 20);
        CHECKS.sameTune("back again", tunes, 0, Checks.rising(0, 20));
        CHECKS.sameTune("back again", tunes, 1);
        CHECKS.same("two empty ones", new SlowTunes().exchange(), 0);
        CHECKS.same("two full ones", full().exchange(), 20);
    }

    private static void notesAndPitch() {
        SlowTunes tunes = Checks.tunesOf(Checks.rising(41, 20), NONE);
        CHECKS.sentence("Promise 23", "Returns the length of a tune");
        CHECKS.same("a full one", tunes.notes(0), 20);
        CHECKS.same("an empty one", tunes.notes(1), 0);
        CHECKS.sentence("Promise 23", "Throws IndexOutOfBoundsException if there is no such tune");
        refusesTunes(tunes, "notes()", tune -> tunes.notes(tune));
        CHECKS.sentence("Promise 24", "Returns the pitch of a note");
        CHECKS.same("the first one", tunes.pitch(0, 0), 41);
        CHECKS.same("the last one of 20", tunes.pitch(0, 19), 60);
        CHECKS.sentence("Promise 24", "Throws IndexOutOfBoundsException if there is no such tune or note");
        refusesTunes(tunes, "pitch()", tune -> tunes.pitch(tune, 0));
        refusesNotes(tunes, "pitch()", 20, note -> tunes.pitch(0, note));
        refusesNotes(tunes, "pitch() of an empty tune", 0, note -> tunes.pitch(1, note));
        tunes.dropNote(0, 0);
        refusesNotes(tunes, "pitch() behind a drop", 19, note -> tunes.pitch(0, note));
    }

    private static void unlike() {
        CHECKS.sentence("Promise 28", "first: number of a note of the tune 0; second: number of a note of the tune 1");
        SlowTunes tunes = Checks.tunesOf(Checks.rising(0, 20), Checks.row(60, 7));
        CHECKS.same("the first ones", tunes.unlike(0, 0), 60);
        CHECKS.same("the last ones", tunes.unlike(19, 1), 12);
        CHECKS.same("the last and the first", tunes.unlike(19, 0), 41);
        CHECKS.sentence("Promise 28", "Throws IndexOutOfBoundsException if there is no such note");
        refusesNotes(tunes, "unlike(.., 0)", 20, note -> tunes.unlike(note, 0));
        refusesNotes(tunes, "unlike(0, ..)", 2, note -> tunes.unlike(0, note));
        tunes.exchange();
        refusesNotes(tunes, "unlike(.., 0) exchanged", 2, note -> tunes.unlike(note, 0));
        refusesNotes(tunes, "unlike(0, ..) exchanged", 20, note -> tunes.unlike(0, note));
        CHECKS.same("the last ones exchanged", tunes.unlike(1, 19), 12);
        SlowTunes[] all = {new SlowTunes(), Checks.tunesOf(Checks.row(1), NONE), Checks.tunesOf(NONE, Checks.row(1))};
        for (SlowTunes none : all) {
            CHECKS.refused("unlike(0, 0), a tune empty", none, Checks.NO_INDEX, () -> none.unlike(0, 0));
        }
    }

    private static void rises() {
        CHECKS.sentence("Promise 29", "how many notes of both tunes, together, are higher than the note ahead of them");
        CHECKS.same("no notes", new SlowTunes().rises(), 0);
        CHECKS.same("a first note has none ahead of it", Checks.tunesOf(Checks.row(0), Checks.row(60)).rises(), 0);
        CHECKS.same("as high is not higher", Checks.tunesOf(Checks.row(5, 5), Checks.row(0, 0)).rises(), 0);
        CHECKS.same("higher by 1", Checks.tunesOf(Checks.row(5, 6), NONE).rises(), 1);
        CHECKS.same("lower by 1", Checks.tunesOf(NONE, Checks.row(6, 5)).rises(), 0);
        CHECKS.same("from 0 to 60", Checks.tunesOf(NONE, Checks.row(0, 60)).rises(), 1);
        SlowTunes dropped = Checks.tunesOf(Checks.row(5, 6), Checks.row(0, 60, 30));
        dropped.dropNote(0, 1);
        dropped.dropNote(1, 1);
        CHECKS.same("a note that is no more", dropped.rises(), 1);
        dropped.dropNote(1, 1);
        CHECKS.same("notes that are no more", dropped.rises(), 0);
        SlowTunes full = full();
        CHECKS.same("all of both that can be", full.rises(), 38);
        full.flip(0);
        CHECKS.same("those of the tune 1 alone", full.rises(), 19);
        full.flip(1);
        CHECKS.same("none of 40 notes", full.rises(), 0);
    }
}
