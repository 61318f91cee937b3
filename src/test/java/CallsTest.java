/** "An object is used for at most 512 calls after it has been made": the last of 512 calls is answered like the first. */
public final class CallsTest {
    private static final int CALLS = 512;
    private static final Checks CHECKS = new Checks("CallsTest");

    public static void main(String[] args) {
        looks();
        changes();
        undone();
        texts();
        CHECKS.finish();
    }

    private static SlowTunes full() {
        SlowTunes tunes = Checks.tunesOf(Checks.rising(0, 20), Checks.rising(30, 20));
        tunes.setJudge(1);
        tunes.setHold(0);
        return tunes;
    }

    private static void looks() {
        CHECKS.sentence("What it is", "An object is used for at most 512 calls: the dearest looks");
        SlowTunes tunes = full();
        long due = tunes.digest();
        for (int call = 44; call <= CALLS; call++) {
            CHECKS.same("digest(), the call " + call, tunes.digest(), due);
        }
    }

    private static void changes() {
        CHECKS.sentence("What it is", "An object is used for at most 512 calls: changes");
        SlowTunes tunes = full();
        tunes.keep();
        for (int call = 44; call <= CALLS; call++) {
            switch (call % 4) {
                case 0:
                    CHECKS.same("setNote(), the call " + call, tunes.setNote(0, 19, 60), 19);
                    break;
                case 1:
                    CHECKS.same("cost(), the call " + call, tunes.cost(), full60());
                    break;
                case 2:
                    CHECKS.same("restore(), the call " + call, tunes.restore(), 40);
                    break;
                default:
                    CHECKS.same("savedStates(), the call " + call, tunes.savedStates(), 6);
            }
        }
    }

    /** The last note of the tune 0 is 60, that of the tune 1 is 49. */
    private static int full60() {
        Model model = new Model();
        for (int note = 0; note < 20; note++) {
            model.addNote(0, note == 19 ? 60 : note);
            model.addNote(1, 30 + note);
        }
        model.setJudge(1);
        model.setHold(0);
        return model.cost();
    }

    private static void undone() {
        CHECKS.sentence("What it is", "An object is used for at most 512 calls: a state saved and dropped each time");
        SlowTunes tunes = new SlowTunes();
        for (int call = 1; call < CALLS; call += 2) {
            CHECKS.same("addNote(), the call " + call, tunes.addNote(0, 5), 1);
            CHECKS.same("undo(), the call " + (call + 1), tunes.undo(), 0);
        }
    }

    private static void texts() {
        CHECKS.sentence("What it is", "An object is used for at most 512 calls: texts");
        SlowTunes tunes = new SlowTunes();
        int calls = 0;
        while (calls + 61 <= CALLS) {
            for (int length = 1; length <= 60; length++) {
                CHECKS.same("append(), the call " + (calls + length), tunes.append("judge:3;".charAt((length - 1) % 8)), length);
            }
            CHECKS.same("clearBuffer(), the call " + (calls + 61), tunes.clearBuffer(), 60);
            calls += 61;
        }
        for (; calls + 6 <= CALLS; calls += 6) {
            Checks.write(tunes, "flip0");
            CHECKS.same("work(), the call " + (calls + 6), tunes.work(), 1);
        }
    }
}
