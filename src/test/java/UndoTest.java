/** Promises 19 to 22: undo, the snapshot. */
public final class UndoTest {
    private static final Checks CHECKS = new Checks("UndoTest");

    public static void main(String[] args) {
        undo();
        undoOfAll();
        bufferStays();
        snapshot();
        snapshotOfStop();
        restoreIsUndoable();
        afterChanges();
        CHECKS.finish();
    }

    private static void undo() {
        SlowTunes tunes = new SlowTunes();
        CHECKS.refused("undo() of nothing", tunes, Checks.BAD_STATE, () -> tunes.undo());
        for (int pitch = 1; pitch <= 9; pitch++) {
            tunes.addNote(0, pitch);
            CHECKS.same("savedStates()", tunes.savedStates(), Math.min(6, pitch));
        }
        for (int left = 5; left >= 0; left--) {
            CHECKS.same("undo()", tunes.undo(), left);
            CHECKS.same("savedStates()", tunes.savedStates(), left);
            CHECKS.same("notes(0) undone", tunes.notes(0), left + 3);
        }
        CHECKS.sameTune("the oldest states are dropped", tunes, 0, 1, 2, 3);
        CHECKS.refused("undo() of no more", tunes, Checks.BAD_STATE, () -> tunes.undo());
        tunes.addNote(0, 7);
        CHECKS.same("savedStates() behind it", tunes.savedStates(), 1);
        CHECKS.same("undo() behind it", tunes.undo(), 0);
        CHECKS.sameTune("undone", tunes, 0, 1, 2, 3);
    }

    /** Every undoable call saves a state, and undo brings back all that the digest tells but the saved states. */
    private static void undoOfAll() {
        SlowTunes tunes = new SlowTunes();
        Checks.write(tunes, "sing0:5,9;sing1:7,3,8");
        tunes.work();
        long[] digests = new long[5];
        digests[0] = tunes.digest();
        tunes.flip(0);
        digests[1] = tunes.digest();
        tunes.exchange();
        digests[2] = tunes.digest();
        tunes.setJudge(1);
        digests[3] = tunes.digest();
        Checks.write(tunes, "slow0;lower0:12");
        CHECKS.same("work()", tunes.work(), 1);
        digests[4] = tunes.digest();
        tunes.dropNote(1, 0);
        for (int step = 4; step >= 0; step--) {
            tunes.undo();
            CHECKS.same("the digest of step " + step, tunes.digest(), digests[step]);
        }
    }

    private static void bufferStays() {
        SlowTunes tunes = new SlowTunes();
        Checks.write(tunes, "sing0:5");
        tunes.keep();
        tunes.addNote(1, 3);
        Checks.write(tunes, ",6");
        tunes.undo();
        CHECKS.same("firstError() undone", tunes.firstError(), 9);
        tunes.restore();
        CHECKS.same("firstError() restored", tunes.firstError(), 9);
        CHECKS.same("work()", tunes.work(), 1);
        tunes.undo();
        CHECKS.same("clearBuffer() behind undo of work", tunes.clearBuffer(), 0);
        CHECKS.same("notes(0) behind undo of work", tunes.notes(0), 0);
    }

    private static void snapshot() {
        SlowTunes tunes = Checks.tunesOf(Checks.row(5, 9), Checks.row(7));
        CHECKS.refused("restore() of nothing", tunes, Checks.BAD_STATE, () -> tunes.restore());
        CHECKS.same("keep()", tunes.keep(), 3);
        CHECKS.same("saved by keep", tunes.savedStates(), 3);
        tunes.setHold(8);
        tunes.setBound(6);
        tunes.dropNote(0, 0);
        CHECKS.same("restore()", tunes.restore(), 3);
        CHECKS.same("saved by restore", tunes.savedStates(), 6);
        CHECKS.sameTune("restored", tunes, 0, 5, 9);
        CHECKS.same("hold() restored", tunes.hold(), 1);
        CHECKS.same("bound() restored", tunes.bound(), 20);
        tunes.setNote(0, 0, 60);
        CHECKS.same("restore() again", tunes.restore(), 3);
        CHECKS.sameTune("restored again", tunes, 0, 5, 9);
        tunes.addNote(0, 1);
        CHECKS.same("keep() in its place", tunes.keep(), 4);
        tunes.exchange();
        tunes.flip(0);
        tunes.setNote(1, 2, 33);
        CHECKS.same("restore() of it", tunes.restore(), 4);
        CHECKS.sameTune("restored", tunes, 0, 5, 9, 1);
        CHECKS.sameTune("restored", tunes, 1, 7);
        tunes.undo();
        tunes.undo();
        CHECKS.same("restore() of what undo leaves", tunes.restore(), 4);
        SlowTunes empty = new SlowTunes();
        CHECKS.same("keep() of nothing", empty.keep(), 0);
        CHECKS.same("restore() of nothing", empty.restore(), 0);
        CHECKS.same("saved by it", empty.savedStates(), 1);
    }

    private static void snapshotOfStop() {
        SlowTunes tunes = new SlowTunes();
        Checks.write(tunes, "sing0:0;lower0:1");
        tunes.work();
        tunes.keep();
        Checks.write(tunes, "flip0");
        tunes.work();
        CHECKS.same("hasStopped()", tunes.hasStopped(), false);
        tunes.restore();
        CHECKS.same("hasStopped() restored", tunes.hasStopped(), true);
        CHECKS.same("stoppedPart() restored", tunes.stoppedPart(), 1);
        CHECKS.same("whyStopped() restored", tunes.whyStopped(), 2);
        tunes.undo();
        CHECKS.same("hasStopped() undone", tunes.hasStopped(), false);
    }

    private static void restoreIsUndoable() {
        SlowTunes tunes = new SlowTunes();
        tunes.keep();
        tunes.addNote(1, 44);
        CHECKS.same("restore()", tunes.restore(), 0);
        CHECKS.same("undo()", tunes.undo(), 1);
        CHECKS.sameTune("undone", tunes, 1, 44);
    }

    /** A state that changed is not answered with what was found for the one before. */
    private static void afterChanges() {
        SlowTunes tunes = Checks.tunesOf(Checks.row(1), Checks.row(3));
        CHECKS.same("cost()", tunes.cost(), 2);
        tunes.setNote(1, 0, 9);
        CHECKS.same("cost() behind setNote", tunes.cost(), 8);
        tunes.undo();
        CHECKS.same("cost() behind undo", tunes.cost(), 2);
        tunes.keep();
        tunes.shift(0, 2);
        CHECKS.same("cost() behind shift", tunes.cost(), 0);
        tunes.restore();
        CHECKS.same("cost() behind restore", tunes.cost(), 2);
        Checks.write(tunes, "sing0:60");
        tunes.work();
        CHECKS.same("cost() behind work", tunes.cost(), 57);
    }
}
