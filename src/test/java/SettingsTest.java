import java.util.function.IntUnaryOperator;

/** Promises 9 to 11 and 25 to 27: settings. */
public final class SettingsTest {
    private static final Checks CHECKS = new Checks("SettingsTest");

    public static void main(String[] args) {
        setBound();
        setHold();
        setJudge();
        whatIsKept();
        CHECKS.finish();
    }

    private static void setBound() {
        SlowTunes tunes = new SlowTunes();
        CHECKS.same("bound()", tunes.bound(), 20);
        CHECKS.same("setBound(0)", tunes.setBound(0), 20);
        CHECKS.same("bound()", tunes.bound(), 0);
        CHECKS.same("setBound(7)", tunes.setBound(7), 0);
        CHECKS.same("setBound(20)", tunes.setBound(20), 7);
        CHECKS.same("setBound(20)", tunes.setBound(20), 20);
        CHECKS.same("saved by setBound", tunes.savedStates(), 4);
        refuses("setBound", tunes, by -> tunes.setBound(by), -1, 21);
        undone(tunes);
        CHECKS.same("bound() undone", tunes.bound(), 7);
    }

    private static void setHold() {
        SlowTunes tunes = new SlowTunes();
        CHECKS.same("hold()", tunes.hold(), 1);
        CHECKS.same("setHold(0)", tunes.setHold(0), 1);
        CHECKS.same("hold()", tunes.hold(), 0);
        CHECKS.same("setHold(9)", tunes.setHold(9), 0);
        CHECKS.same("setHold(50)", tunes.setHold(50), 9);
        CHECKS.same("setHold(50)", tunes.setHold(50), 50);
        CHECKS.same("saved by setHold", tunes.savedStates(), 4);
        refuses("setHold", tunes, by -> tunes.setHold(by), -1, 51);
        undone(tunes);
        CHECKS.same("hold() undone", tunes.hold(), 9);
    }

    private static void setJudge() {
        SlowTunes tunes = new SlowTunes();
        CHECKS.same("judge()", tunes.judge(), 0);
        CHECKS.same("setJudge(3)", tunes.setJudge(3), 0);
        CHECKS.same("judge()", tunes.judge(), 3);
        CHECKS.same("setJudge(1)", tunes.setJudge(1), 3);
        CHECKS.same("setJudge(2)", tunes.setJudge(2), 1);
        CHECKS.same("setJudge(2)", tunes.setJudge(2), 2);
        CHECKS.same("saved by setJudge", tunes.savedStates(), 4);
        refuses("setJudge", tunes, by -> tunes.setJudge(by), -1, 4);
        undone(tunes);
        CHECKS.same("judge() undone", tunes.judge(), 1);
    }

    private static void refuses(String call, SlowTunes tunes, IntUnaryOperator setter, int below, int above) {
        for (int wrong : Checks.row(below, above, Integer.MIN_VALUE, Integer.MAX_VALUE)) {
            CHECKS.refused(call + "(" + wrong + ")", tunes, Checks.BAD_NUMBER, () -> setter.applyAsInt(wrong));
        }
    }

    private static void undone(SlowTunes tunes) {
        tunes.undo();
        tunes.undo();
    }

    /** A setting leaves the tunes and the other settings. */
    private static void whatIsKept() {
        SlowTunes tunes = Checks.tunesOf(Checks.row(4, 5), Checks.row(6));
        tunes.setBound(3);
        tunes.setHold(4);
        tunes.setJudge(2);
        CHECKS.same("bound()", tunes.bound(), 3);
        CHECKS.same("hold()", tunes.hold(), 4);
        CHECKS.same("judge()", tunes.judge(), 2);
        CHECKS.sameTune("behind settings", tunes, 0, 4, 5);
        CHECKS.sameTune("behind settings", tunes, 1, 6);
    }
}
