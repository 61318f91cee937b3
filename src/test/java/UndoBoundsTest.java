/** The boundaries that the document names for saved states and the snapshot: "Undo, the snapshot", 19 to 22. */
public final class UndoBoundsTest {
    private static final int[] NONE = {};
    private static final Checks CHECKS = new Checks("UndoBoundsTest");

    public static void main(String[] args) {
        undoableTunes();
        undoableSettingsAndTexts();
        undoableRestore();
        notUndoable();
        whatIsSaved();
        whatIsNotSaved();
        whatSnapshotHas();
        mostSaved();
        filledAgain();
        undo();
        keep();
        restore();
        restoreToFullSaved();
        savedStates();
        CHECKS.finish();
    }

    private static SlowTunes some() {
        return Checks.tunesOf(Checks.row(5, 9), Checks.row(7));
    }

    private static int worked(SlowTunes tunes, String text) {
        Checks.write(tunes, text);
        return tunes.work();
    }

    /** The call saves one state, and undo brings back all that the digest tells. */
    private static void saves(String what, SlowTunes tunes, Checks.Call call) {
        long before = tunes.digest();
        int saved = tunes.savedStates();
        call.on(tunes);
        CHECKS.same(what + ": savedStates()", tunes.savedStates(), saved + 1);
        // With this look the object knows the matches of the state that is undone.
        tunes.digest();
        CHECKS.same(what + ": undo()", tunes.undo(), saved);
        CHECKS.same(what + ": digest() undone", tunes.digest(), before);
    }

    private static void undoableTunes() {
        CHECKS.sentence("Undo, and promises 2 to 8", "saves the state from before it (also if it changes nothing)");
        saves("addNote", some(), tunes -> tunes.addNote(1, 3));
        saves("the first addNote", new SlowTunes(), tunes -> tunes.addNote(0, 0));
        saves("setNote", some(), tunes -> tunes.setNote(0, 1, 60));
        saves("setNote to the same", some(), tunes -> tunes.setNote(0, 1, 9));
        saves("dropNote", some(), tunes -> tunes.dropNote(0, 0));
        saves("dropNote of the only note", some(), tunes -> tunes.dropNote(1, 0));
        saves("shift", some(), tunes -> tunes.shift(0, 12));
        saves("shift by 0", some(), tunes -> tunes.shift(0, 0));
        saves("shift of an empty tune", new SlowTunes(), tunes -> tunes.shift(1, 12));
        saves("slow", some(), tunes -> tunes.slow(0));
        saves("slow of an empty tune", new SlowTunes(), tunes -> tunes.slow(1));
        saves("flip", some(), tunes -> tunes.flip(0));
        saves("flip of one note", some(), tunes -> tunes.flip(1));
        saves("flip of an empty tune", new SlowTunes(), tunes -> tunes.flip(0));
        saves("exchange", some(), tunes -> tunes.exchange());
        saves("exchange of empty tunes", new SlowTunes(), tunes -> tunes.exchange());
    }

    private static void undoableSettingsAndTexts() {
        CHECKS.sentence("Undo, and promises 9 to 11", "saves the state from before it (also if it changes nothing)");
        saves("setBound", some(), tunes -> tunes.setBound(0));
        saves("setBound to the same", some(), tunes -> tunes.setBound(20));
        saves("setHold", some(), tunes -> tunes.setHold(50));
        saves("setHold to the same", some(), tunes -> tunes.setHold(1));
        saves("setJudge", some(), tunes -> tunes.setJudge(3));
        saves("setJudge to the same", some(), tunes -> tunes.setJudge(0));
        CHECKS.sentence("Undo, and promise 15", "saves the state from before it (also if it changes nothing)");
        saves("work", some(), tunes -> worked(tunes, "raise0:12;flip0;judge:1"));
        saves("work to a stop", some(), tunes -> worked(tunes, "flip0;lower1:8"));
        saves("work of nothing", some(), tunes -> worked(tunes, "lower1:8"));
        saves("work that changes nothing", some(), tunes -> worked(tunes, "bound:20"));
    }

    private static void undoableRestore() {
        CHECKS.sentence("Undo, and promise 21", "saves the state from before it (also if it changes nothing)");
        SlowTunes kept = some();
        kept.keep();
        saves("restore of what is there", kept, tunes -> tunes.restore());
        kept.setNote(1, 0, 33);
        saves("restore", kept, tunes -> tunes.restore());
        SlowTunes empty = new SlowTunes();
        empty.keep();
        saves("restore of empty tunes", empty, tunes -> tunes.restore());
    }

    private static void notUndoable() {
        CHECKS.sentence("Undo", "Each method that is marked \"undoable\"");
        SlowTunes tunes = some();
        worked(tunes, "slow0;lower1:12");
        tunes.append('s');
        tunes.firstError();
        tunes.clearBuffer();
        tunes.hasStopped();
        tunes.stoppedPart();
        tunes.whyStopped();
        tunes.keep();
        CHECKS.same("texts and keep() save nothing", tunes.savedStates(), 4);
        everyLook(tunes);
        CHECKS.sentence("Undo", "Each method that is marked \"undoable\"");
        CHECKS.same("looks save nothing", tunes.savedStates(), 4);
        CHECKS.same("undo() undoes the latest work()", tunes.undo(), 3);
        CHECKS.sameTune("undone", tunes, 0, 5, 9);
    }

    private static void everyLook(SlowTunes tunes) {
        CHECKS.sentence("The public face", "looks at tunes; what would be; nothing is changed");
        long before = tunes.digest();
        tunes.notes(0);
        tunes.pitch(0, 0);
        tunes.bound();
        tunes.hold();
        tunes.judge();
        tunes.unlike(0, 0);
        tunes.rises();
        tunes.isMatched();
        tunes.cost();
        tunes.costFromEnd();
        tunes.costTo(0, 0);
        tunes.pairs();
        tunes.noteOfPair(0, 0);
        tunes.stretch(0, 0);
        tunes.longestStretch(0);
        tunes.holds();
        tunes.bestMatches();
        tunes.partCost();
        tunes.partBegin();
        tunes.partEnd();
        tunes.costWithShift(12);
        tunes.bestShift();
        tunes.costWithBound(0);
        tunes.neededBound();
        tunes.evenShare();
        CHECKS.same("digest() behind every look", tunes.digest(), before);
    }

    private static void whatIsSaved() {
        CHECKS.sentence("Undo", "all, also the latest stop and its reason");
        SlowTunes tunes = Checks.tunesOf(Checks.rising(0, 20), Checks.row(60));
        worked(tunes, "flip0;raise1:1");
        worked(tunes, "slow0");
        CHECKS.same("the latest stop", tunes.stoppedPart(), 0);
        CHECKS.same("its reason", tunes.whyStopped(), 1);
        tunes.undo();
        CHECKS.same("hasStopped() undone", tunes.hasStopped(), true);
        CHECKS.same("stoppedPart() undone", tunes.stoppedPart(), 1);
        CHECKS.same("whyStopped() undone", tunes.whyStopped(), 2);
        CHECKS.sameTune("undone", tunes, 1, 60);
        CHECKS.same("pitch(0, 0) undone", tunes.pitch(0, 0), 19);
        tunes.undo();
        CHECKS.same("hasStopped() ahead of all", tunes.hasStopped(), false);
        CHECKS.same("pitch(0, 0) ahead of all", tunes.pitch(0, 0), 0);
        CHECKS.refused("whyStopped() ahead of all", tunes, Checks.BAD_STATE, () -> tunes.whyStopped());
        worked(tunes, "hold:0");
        worked(tunes, "hold:50;bound:0;judge:3");
        tunes.undo();
        CHECKS.same("hold() undone", tunes.hold(), 0);
        CHECKS.same("bound() undone", tunes.bound(), 20);
        CHECKS.same("judge() undone", tunes.judge(), 0);
    }

    private static void whatIsNotSaved() {
        CHECKS.sentence("Undo", "but the buffer");
        SlowTunes tunes = some();
        Checks.write(tunes, "~".repeat(60));
        tunes.undo();
        CHECKS.same("a full buffer stays", tunes.clearBuffer(), 60);
        tunes.undo();
        CHECKS.same("an empty one stays", tunes.clearBuffer(), 0);
        worked(tunes, "flip0");
        tunes.append('x');
        tunes.undo();
        CHECKS.same("that of work() does not come back", tunes.clearBuffer(), 1);
        CHECKS.sentence("Undo", "the saved states");
        tunes.flip(1);
        CHECKS.same("undo() brings no states back", tunes.undo(), 1);
        CHECKS.same("undo() again", tunes.undo(), 0);
        CHECKS.refused("undo() once more", tunes, Checks.BAD_STATE, () -> tunes.undo());
        CHECKS.sentence("Undo", "and the snapshot");
        SlowTunes kept = some();
        kept.flip(0);
        kept.keep();
        kept.undo();
        kept.undo();
        CHECKS.same("a snapshot stays behind undo()", kept.restore(), 3);
        CHECKS.sameTune("a snapshot stays behind undo()", kept, 0, 9, 5);
        CHECKS.sameTune("a snapshot stays behind undo()", kept, 1, 7);
    }

    private static void whatSnapshotHas() {
        CHECKS.sentence("Undo", "(a snapshot has the same)");
        SlowTunes tunes = Checks.tunesOf(Checks.row(0), Checks.row(60));
        worked(tunes, "bound:3;hold:4;judge:2;lower0:1");
        tunes.keep();
        worked(tunes, "bound:20;hold:1;judge:0;sing0:1,2;sing1:3");
        tunes.append('x');
        CHECKS.same("restore()", tunes.restore(), 2);
        CHECKS.sameTune("its notes", tunes, 0, 0);
        CHECKS.sameTune("its notes", tunes, 1, 60);
        CHECKS.same("its bound", tunes.bound(), 3);
        CHECKS.same("its price", tunes.hold(), 4);
        CHECKS.same("its judge", tunes.judge(), 2);
        CHECKS.same("its stop", tunes.hasStopped(), true);
        CHECKS.same("the part of its stop", tunes.stoppedPart(), 3);
        CHECKS.same("the reason of its stop", tunes.whyStopped(), 2);
        CHECKS.same("the buffer stays", tunes.clearBuffer(), 1);
        CHECKS.same("the saved states stay, but for one more", tunes.savedStates(), 5);
        SlowTunes without = some();
        without.keep();
        worked(without, "lower0:12");
        without.restore();
        CHECKS.same("no stop, if it had none", without.hasStopped(), false);
    }

    private static void mostSaved() {
        CHECKS.sentence("Undo", "At most 6 states are saved; the oldest one is dropped first");
        SlowTunes tunes = new SlowTunes();
        for (int price = 1; price <= 6; price++) {
            tunes.setHold(price + 10);
            CHECKS.same("savedStates()", tunes.savedStates(), price);
        }
        tunes.setHold(17);
        CHECKS.same("savedStates() of 7 changes", tunes.savedStates(), 6);
        for (int left = 5; left >= 0; left--) {
            CHECKS.same("undo()", tunes.undo(), left);
            CHECKS.same("hold() undone", tunes.hold(), left + 11);
        }
        CHECKS.refused("undo() to the oldest of 7", tunes, Checks.BAD_STATE, () -> tunes.undo());
        SlowTunes six = new SlowTunes();
        for (int price = 11; price <= 16; price++) {
            six.setHold(price);
        }
        for (int left = 5; left >= 0; left--) {
            six.undo();
        }
        CHECKS.same("6 of 6 undone", six.hold(), 1);
        SlowTunes many = new SlowTunes();
        for (int change = 0; change < 300; change++) {
            many.setHold(change % 51);
        }
        for (int left = 5; left >= 0; left--) {
            CHECKS.same("undo() behind 300 changes", many.undo(), left);
            CHECKS.same("hold() then", many.hold(), (left + 293) % 51);
        }
        CHECKS.refused("undo() of the seventh", many, Checks.BAD_STATE, () -> many.undo());
    }

    /** States that are dropped from both ends, round and round. */
    private static void filledAgain() {
        CHECKS.sentence("Undo", "the oldest one is dropped first");
        SlowTunes tunes = new SlowTunes();
        int pitch = 0;
        java.util.ArrayList<Integer> due = new java.util.ArrayList<>();
        tunes.addNote(0, 60);
        due.add(-1);
        for (int round = 0; round < 30; round++) {
            for (int more = 0; more <= round % 7; more++) {
                due.add(tunes.pitch(0, 0));
                pitch = (pitch + 7) % 61;
                tunes.setNote(0, 0, pitch);
            }
            while (due.size() > 6) {
                due.remove(0);
            }
            for (int less = 0; less < round % 4 && due.size() > 1; less++) {
                int before = due.remove(due.size() - 1);
                CHECKS.same("undo() of round " + round, tunes.undo(), due.size());
                CHECKS.same("pitch(0, 0) of round " + round, tunes.pitch(0, 0), before);
            }
            CHECKS.same("savedStates() of round " + round, tunes.savedStates(), due.size());
        }
    }

    private static void undo() {
        CHECKS.sentence("Promise 19", "Throws IllegalStateException if there is none");
        SlowTunes tunes = new SlowTunes();
        CHECKS.refused("of a new object", tunes, Checks.BAD_STATE, () -> tunes.undo());
        tunes.keep();
        CHECKS.refused("a snapshot is no saved state", tunes, Checks.BAD_STATE, () -> tunes.undo());
        CHECKS.refused("a call that is refused", tunes, Checks.NO_INDEX, () -> tunes.flip(2));
        CHECKS.refused("behind a call that is refused", tunes, Checks.BAD_STATE, () -> tunes.undo());
        CHECKS.sentence("Promise 19", "Returns how many saved states are left");
        tunes.addNote(0, 1);
        CHECKS.same("none", tunes.undo(), 0);
        for (int pitch = 0; pitch < 6; pitch++) {
            tunes.addNote(0, pitch);
        }
        CHECKS.same("five", tunes.undo(), 5);
        CHECKS.sentence("Promise 19", "Restores the latest saved state, and drops it");
        CHECKS.sameTune("the latest", tunes, 0, 0, 1, 2, 3, 4);
        CHECKS.same("dropped", tunes.savedStates(), 5);
        tunes.undo();
        CHECKS.sameTune("the one ahead of it", tunes, 0, 0, 1, 2, 3);
    }

    private static void keep() {
        CHECKS.sentence("Promise 20", "Returns the number of notes of both tunes");
        CHECKS.same("none", new SlowTunes().keep(), 0);
        SlowTunes one = Checks.tunesOf(NONE, Checks.row(3));
        CHECKS.same("one", one.keep(), 1);
        SlowTunes full = Checks.tunesOf(Checks.rising(0, 20), Checks.rising(20, 20));
        CHECKS.same("40", full.keep(), 40);
        CHECKS.sentence("Promise 20", "Takes a snapshot, in place of the one before");
        one.dropNote(1, 0);
        CHECKS.same("of empty tunes", one.keep(), 0);
        one.addNote(0, 4);
        CHECKS.same("restore()", one.restore(), 0);
        CHECKS.sameTune("not the one before", one, 1);
        CHECKS.same("undo() does not bring the one before", one.undo(), 3);
        CHECKS.same("restore() of the later one", one.restore(), 0);
        SlowTunes unsaved = new SlowTunes();
        unsaved.keep();
        CHECKS.same("keep() saves no state", unsaved.savedStates(), 0);
    }

    private static void restore() {
        CHECKS.sentence("Promise 21", "Throws IllegalStateException if there is no snapshot");
        SlowTunes tunes = some();
        CHECKS.refused("of none", tunes, Checks.BAD_STATE, () -> tunes.restore());
        tunes.flip(0);
        tunes.undo();
        CHECKS.refused("a saved state is no snapshot", tunes, Checks.BAD_STATE, () -> tunes.restore());
        CHECKS.sentence("Promise 21", "Restores the state of the snapshot, which stays");
        tunes.keep();
        for (int round = 0; round < 3; round++) {
            tunes.setNote(0, 0, 60 - round);
            tunes.exchange();
            tunes.slow(1);
            tunes.setNote(1, 0, 33);
            CHECKS.same("restore() of round " + round, tunes.restore(), 3);
            CHECKS.sameTune("round " + round, tunes, 0, 5, 9);
            CHECKS.sameTune("round " + round, tunes, 1, 7);
        }
        CHECKS.same("restore() behind restore()", tunes.restore(), 3);
        CHECKS.sentence("Promise 21", "Returns the number of notes of both tunes then");
        SlowTunes full = Checks.tunesOf(Checks.rising(0, 20), Checks.rising(20, 20));
        full.keep();
        full.dropNote(0, 0);
        CHECKS.same("40 of 39", full.restore(), 40);
        SlowTunes empty = new SlowTunes();
        empty.keep();
        empty.addNote(1, 1);
        CHECKS.same("none of one", empty.restore(), 0);
    }

    private static void restoreToFullSaved() {
        CHECKS.sentence("Promise 21", "Undoable");
        SlowTunes tunes = new SlowTunes();
        tunes.keep();
        for (int price = 11; price <= 16; price++) {
            tunes.setHold(price);
        }
        tunes.restore();
        CHECKS.same("savedStates(), six being saved", tunes.savedStates(), 6);
        CHECKS.same("hold() restored", tunes.hold(), 1);
        for (int left = 5; left >= 0; left--) {
            CHECKS.same("undo()", tunes.undo(), left);
            CHECKS.same("hold() undone", tunes.hold(), left + 11);
        }
        CHECKS.refused("undo() of the one that was dropped", tunes, Checks.BAD_STATE, () -> tunes.undo());
        CHECKS.same("the snapshot behind all", tunes.restore(), 0);
        CHECKS.same("hold() of the snapshot", tunes.hold(), 1);
    }

    private static void savedStates() {
        CHECKS.sentence("Promise 22", "Returns the number of saved states");
        SlowTunes tunes = new SlowTunes();
        CHECKS.same("none", tunes.savedStates(), 0);
        for (int change = 1; change <= 8; change++) {
            tunes.exchange();
            CHECKS.same(change + " changes", tunes.savedStates(), Math.min(6, change));
        }
        CHECKS.refused("a call that is refused", tunes, Checks.BAD_NUMBER, () -> tunes.setBound(21));
        CHECKS.same("behind it", tunes.savedStates(), 6);
        tunes.undo();
        CHECKS.same("behind undo()", tunes.savedStates(), 5);
    }
}
