/** Promises 1 to 8, and 23, 24, 28, 29: tunes, and looks at them. */
public final class TunesTest {
    private static final int[] NONE = {};
    private static final int[] NO_TUNES = {-1, 2, Integer.MAX_VALUE, Integer.MIN_VALUE};
    private static final int[] NO_PITCHES = {-1, 61, Integer.MAX_VALUE, Integer.MIN_VALUE};
    private static final Checks CHECKS = new Checks("TunesTest");

    public static void main(String[] args) {
        newObject();
        addNote();
        setNote();
        dropNote();
        shift();
        slow();
        flip();
        exchange();
        looks();
        unlike();
        rises();
        CHECKS.finish();
    }

    private static SlowTunes example() {
        return Checks.tunesOf(Checks.row(10, 20, 30), Checks.row(60, 0));
    }

    private static void newObject() {
        SlowTunes tunes = new SlowTunes();
        CHECKS.sameTune("a new object", tunes, 0);
        CHECKS.sameTune("a new object", tunes, 1);
        CHECKS.same("its bound", tunes.bound(), 20);
        CHECKS.same("its hold", tunes.hold(), 1);
        CHECKS.same("its judge", tunes.judge(), 0);
        CHECKS.same("its buffer", tunes.firstError(), 0);
        CHECKS.same("its saved states", tunes.savedStates(), 0);
        CHECKS.same("its stop", tunes.hasStopped(), false);
        CHECKS.same("its match", tunes.isMatched(), false);
        CHECKS.refused("its snapshot", tunes, Checks.BAD_STATE, () -> tunes.restore());
        CHECKS.refused("its undo", tunes, Checks.BAD_STATE, () -> tunes.undo());
        CHECKS.same("its cleared buffer", tunes.clearBuffer(), 0);
        SlowTunes other = new SlowTunes();
        other.addNote(0, 5);
        CHECKS.same("an object beside it", tunes.notes(0), 0);
    }

    private static void addNote() {
        SlowTunes tunes = new SlowTunes();
        CHECKS.same("addNote(0, 0)", tunes.addNote(0, 0), 1);
        CHECKS.same("addNote(0, 60)", tunes.addNote(0, 60), 2);
        CHECKS.same("addNote(1, 7)", tunes.addNote(1, 7), 1);
        CHECKS.sameTune("added", tunes, 0, 0, 60);
        CHECKS.sameTune("added", tunes, 1, 7);
        CHECKS.same("saved by addNote", tunes.savedStates(), 3);
        for (int wrong : NO_PITCHES) {
            CHECKS.refused("addNote(1, " + wrong + ")", tunes, Checks.BAD_NUMBER, () -> tunes.addNote(1, wrong));
        }
        for (int wrong : NO_TUNES) {
            CHECKS.refused("addNote(" + wrong + ", 61)", tunes, Checks.NO_INDEX, () -> tunes.addNote(wrong, 61));
        }
        for (int length = 3; length <= 20; length++) {
            CHECKS.same("addNote(0, 5)", tunes.addNote(0, 5), length);
        }
        CHECKS.refused("addNote(0, 5) to 20", tunes, Checks.BAD_STATE, () -> tunes.addNote(0, 5));
        CHECKS.refused("addNote(0, 61) to 20", tunes, Checks.BAD_NUMBER, () -> tunes.addNote(0, 61));
        CHECKS.refused("addNote(2, 5)", tunes, Checks.NO_INDEX, () -> tunes.addNote(2, 5));
        CHECKS.same("addNote(1, 8)", tunes.addNote(1, 8), 2);
        tunes.undo();
        CHECKS.sameTune("undone", tunes, 1, 7);
    }

    private static void setNote() {
        SlowTunes tunes = example();
        CHECKS.same("setNote(0, 1, 60)", tunes.setNote(0, 1, 60), 20);
        CHECKS.same("setNote(1, 0, 0)", tunes.setNote(1, 0, 0), 60);
        CHECKS.sameTune("set", tunes, 0, 10, 60, 30);
        CHECKS.sameTune("set", tunes, 1, 0, 0);
        CHECKS.same("setNote to the same", tunes.setNote(1, 0, 0), 0);
        CHECKS.same("saved by setNote", tunes.savedStates(), 6);
        tunes.undo();
        tunes.undo();
        CHECKS.sameTune("undone", tunes, 1, 60, 0);
        for (int wrong : NO_TUNES) {
            CHECKS.refused("setNote(" + wrong + ", 0, 61)", tunes, Checks.NO_INDEX, () -> tunes.setNote(wrong, 0, 61));
        }
        for (int wrong : Checks.row(-1, 2, 19, 20, Integer.MAX_VALUE, Integer.MIN_VALUE)) {
            CHECKS.refused("setNote(1, " + wrong + ", 5)", tunes, Checks.NO_INDEX, () -> tunes.setNote(1, wrong, 5));
            CHECKS.refused("setNote(1, " + wrong + ", 61)", tunes, Checks.NO_INDEX, () -> tunes.setNote(1, wrong, 61));
        }
        for (int wrong : NO_PITCHES) {
            CHECKS.refused("setNote(0, 2, " + wrong + ")", tunes, Checks.BAD_NUMBER, () -> tunes.setNote(0, 2, wrong));
        }
    }

    private static void dropNote() {
        SlowTunes tunes = example();
        CHECKS.same("dropNote(0, 1)", tunes.dropNote(0, 1), 20);
        CHECKS.sameTune("dropped", tunes, 0, 10, 30);
        CHECKS.same("dropNote(1, 0)", tunes.dropNote(1, 0), 60);
        CHECKS.sameTune("dropped", tunes, 1, 0);
        CHECKS.same("dropNote(0, 1)", tunes.dropNote(0, 1), 30);
        CHECKS.same("dropNote(0, 0)", tunes.dropNote(0, 0), 10);
        CHECKS.sameTune("dropped", tunes, 0);
        CHECKS.refused("dropNote(0, 0) of none", tunes, Checks.NO_INDEX, () -> tunes.dropNote(0, 0));
        CHECKS.refused("dropNote(1, 1)", tunes, Checks.NO_INDEX, () -> tunes.dropNote(1, 1));
        CHECKS.refused("dropNote(1, -1)", tunes, Checks.NO_INDEX, () -> tunes.dropNote(1, -1));
        for (int wrong : NO_TUNES) {
            CHECKS.refused("dropNote(" + wrong + ", 0)", tunes, Checks.NO_INDEX, () -> tunes.dropNote(wrong, 0));
        }
        tunes.undo();
        tunes.undo();
        CHECKS.sameTune("undone", tunes, 0, 10, 30);
        SlowTunes full = Checks.tunesOf(Checks.repeated(4, 20), NONE);
        CHECKS.same("dropNote(0, 19) of 20", full.dropNote(0, 19), 4);
        CHECKS.same("notes then", full.notes(0), 19);
        CHECKS.same("addNote then", full.addNote(0, 9), 20);
        CHECKS.same("dropNote(0, 0) of 20", full.dropNote(0, 0), 4);
        CHECKS.same("the last pitch then", full.pitch(0, 18), 9);
    }

    private static void shift() {
        SlowTunes tunes = example();
        CHECKS.same("shift(0, 12)", tunes.shift(0, 12), 3);
        CHECKS.sameTune("shifted", tunes, 0, 22, 32, 42);
        CHECKS.same("shift(0, -12)", tunes.shift(0, -12), 3);
        CHECKS.sameTune("shifted back", tunes, 0, 10, 20, 30);
        CHECKS.same("shift(1, 0)", tunes.shift(1, 0), 2);
        CHECKS.sameTune("shifted by 0", tunes, 1, 60, 0);
        CHECKS.same("saved by shift", tunes.savedStates(), 6);
        CHECKS.refused("shift(1, 1) beyond 60", tunes, Checks.BAD_STATE, () -> tunes.shift(1, 1));
        CHECKS.refused("shift(1, -1) below 0", tunes, Checks.BAD_STATE, () -> tunes.shift(1, -1));
        CHECKS.refused("shift(0, -11) below 0", tunes, Checks.BAD_STATE, () -> tunes.shift(0, -11));
        CHECKS.same("shift(0, -10) to 0", tunes.shift(0, -10), 3);
        CHECKS.sameTune("shifted to 0", tunes, 0, 0, 10, 20);
        for (int wrong : Checks.row(-13, 13, Integer.MAX_VALUE, Integer.MIN_VALUE)) {
            CHECKS.refused("shift(1, " + wrong + ")", tunes, Checks.BAD_NUMBER, () -> tunes.shift(1, wrong));
        }
        for (int wrong : NO_TUNES) {
            CHECKS.refused("shift(" + wrong + ", 13)", tunes, Checks.NO_INDEX, () -> tunes.shift(wrong, 13));
        }
        SlowTunes empty = new SlowTunes();
        CHECKS.same("shift of an empty tune", empty.shift(1, -12), 0);
        CHECKS.same("saved by it", empty.savedStates(), 1);
        SlowTunes high = Checks.tunesOf(NONE, Checks.row(48));
        high.shift(1, 12);
        CHECKS.sameTune("shifted to 60", high, 1, 60);
        high.undo();
        CHECKS.sameTune("undone", high, 1, 48);
    }

    private static void slow() {
        SlowTunes tunes = example();
        CHECKS.same("slow(0)", tunes.slow(0), 6);
        CHECKS.sameTune("slow", tunes, 0, 10, 10, 20, 20, 30, 30);
        CHECKS.same("slow(0) again", tunes.slow(0), 12);
        CHECKS.refused("slow(0) to 24", tunes, Checks.BAD_STATE, () -> tunes.slow(0));
        CHECKS.sameTune("the other tune", tunes, 1, 60, 0);
        tunes.undo();
        tunes.undo();
        CHECKS.sameTune("undone", tunes, 0, 10, 20, 30);
        for (int wrong : NO_TUNES) {
            CHECKS.refused("slow(" + wrong + ")", tunes, Checks.NO_INDEX, () -> tunes.slow(wrong));
        }
        SlowTunes ten = Checks.tunesOf(Checks.repeated(3, 10), Checks.repeated(3, 11));
        CHECKS.same("slow of 10", ten.slow(0), 20);
        CHECKS.refused("slow of 11", ten, Checks.BAD_STATE, () -> ten.slow(1));
        CHECKS.same("slow of none", new SlowTunes().slow(1), 0);
    }

    private static void flip() {
        SlowTunes tunes = example();
        CHECKS.same("flip(0)", tunes.flip(0), 3);
        CHECKS.sameTune("flipped", tunes, 0, 30, 20, 10);
        CHECKS.same("flip(1)", tunes.flip(1), 2);
        CHECKS.sameTune("flipped", tunes, 1, 0, 60);
        CHECKS.same("saved by flip", tunes.savedStates(), 6);
        tunes.undo();
        tunes.undo();
        CHECKS.sameTune("undone", tunes, 0, 10, 20, 30);
        for (int wrong : NO_TUNES) {
            CHECKS.refused("flip(" + wrong + ")", tunes, Checks.NO_INDEX, () -> tunes.flip(wrong));
        }
        SlowTunes empty = new SlowTunes();
        CHECKS.same("flip of none", empty.flip(1), 0);
        CHECKS.same("saved by it", empty.savedStates(), 1);
    }

    private static void exchange() {
        SlowTunes tunes = example();
        CHECKS.same("exchange()", tunes.exchange(), 2);
        CHECKS.sameTune("exchanged", tunes, 0, 60, 0);
        CHECKS.sameTune("exchanged", tunes, 1, 10, 20, 30);
        tunes.setNote(0, 0, 7);
        CHECKS.sameTune("set behind it", tunes, 0, 7, 0);
        tunes.undo();
        tunes.undo();
        CHECKS.sameTune("undone", tunes, 0, 10, 20, 30);
        CHECKS.sameTune("undone", tunes, 1, 60, 0);
        CHECKS.same("exchange of none", new SlowTunes().exchange(), 0);
    }

    private static void looks() {
        SlowTunes tunes = example();
        CHECKS.same("notes(0)", tunes.notes(0), 3);
        CHECKS.same("notes(1)", tunes.notes(1), 2);
        CHECKS.same("pitch(0, 2)", tunes.pitch(0, 2), 30);
        CHECKS.same("pitch(1, 0)", tunes.pitch(1, 0), 60);
        for (int wrong : NO_TUNES) {
            CHECKS.refused("notes(" + wrong + ")", tunes, Checks.NO_INDEX, () -> tunes.notes(wrong));
            CHECKS.refused("pitch(" + wrong + ", 0)", tunes, Checks.NO_INDEX, () -> tunes.pitch(wrong, 0));
        }
        for (int wrong : Checks.row(-1, 2, 20, Integer.MAX_VALUE, Integer.MIN_VALUE)) {
            CHECKS.refused("pitch(1, " + wrong + ")", tunes, Checks.NO_INDEX, () -> tunes.pitch(1, wrong));
        }
        CHECKS.refused("pitch(0, 3)", tunes, Checks.NO_INDEX, () -> tunes.pitch(0, 3));
        CHECKS.same("saved by looks", tunes.savedStates(), 5);
    }

    private static void unlike() {
        SlowTunes tunes = Checks.tunesOf(Checks.row(0, 30, 60), Checks.row(30, 5));
        int[][] due = {{30, 5, 900, 25, 6, 5, 1, 1}, {0, 25, 0, 625, 0, 1, 0, 1}, {30, 55, 900, 3025, 6, 5, 1, 1}};
        for (int judge = 0; judge <= 3; judge++) {
            tunes.setJudge(judge);
            for (int first = 0; first < 3; first++) {
                for (int second = 0; second < 2; second++) {
                    CHECKS.same("unlike(" + first + ", " + second + ") of judge " + judge,
                            tunes.unlike(first, second), due[first][2 * judge + second]);
                }
            }
        }
        CHECKS.refused("unlike(3, 0)", tunes, Checks.NO_INDEX, () -> tunes.unlike(3, 0));
        CHECKS.refused("unlike(0, 2)", tunes, Checks.NO_INDEX, () -> tunes.unlike(0, 2));
        CHECKS.refused("unlike(-1, 0)", tunes, Checks.NO_INDEX, () -> tunes.unlike(-1, 0));
        CHECKS.refused("unlike(0, -1)", tunes, Checks.NO_INDEX, () -> tunes.unlike(0, -1));
        octaves();
    }

    private static void octaves() {
        SlowTunes tunes = Checks.tunesOf(Checks.row(0), Checks.row(0));
        tunes.setJudge(2);
        for (int d = 0; d <= 60; d++) {
            tunes.setNote(1, 0, d);
            int left = d % 12;
            CHECKS.same("octaves of " + d, tunes.unlike(0, 0), left <= 6 ? left : 12 - left);
        }
    }

    private static void rises() {
        CHECKS.same("rises of none", new SlowTunes().rises(), 0);
        CHECKS.same("rises of ones", Checks.tunesOf(Checks.row(3), Checks.row(9)).rises(), 0);
        CHECKS.same("rises of both", Checks.tunesOf(Checks.row(1, 2, 2, 5, 4), Checks.row(0, 60, 0, 1)).rises(), 4);
        CHECKS.same("rises of falls", Checks.tunesOf(Checks.row(9, 9, 8), NONE).rises(), 0);
    }
}
