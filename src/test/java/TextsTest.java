/** Promises 12 to 18: the buffer, works as a text, and stops. */
public final class TextsTest {
    private static final Checks CHECKS = new Checks("TextsTest");
    private static final String[] COMPLETE = {
        "sing0:0", "sing1:60", "sing0:7,59,10", "raise0:1", "raise1:12", "lower0:10", "lower1:9", "slow0", "slow1",
        "flip0", "flip1", "bound:0", "bound:20", "bound:19", "hold:0", "hold:50", "hold:49", "judge:0", "judge:3",
        "slow0;slow1", "sing0:1;sing1:2,3;bound:5;flip0", "judge:1;judge:2"};
    /** The sign ^ stands ahead of the character that is the error. */
    private static final String[] WRONG = {
        "^;", "^,", "^0", "^S", "^x", "s^o", "si^g", "sl^i", "slow^:", "slow^2", "slow0^:", "slow0^0", "slow0^,", "sing^:",
        "sing^2:", "sing0^1", "sing0:^,", "sing0:^;", "sing0:0^0", "sing0:0^1", "sing0:6^1", "sing0:7^0", "sing0:60^0",
        "sing0:1,^,", "sing0:1,^;", "sing0:1,0^2", "sing0:5^:", "sing0:^-1", "raise0:^0", "raise0:1^3", "raise0:12^0",
        "raise0:2^0", "raise0:1^,", "raise^:", "lower1:^0", "lower1:1^3", "lower1:9^,", "lower^2:",
        "bound^0", "bound:2^1", "bound:0^0", "bound:3^0", "bound:1^,", "hold:5^1", "hold:6^0", "hold:0^5", "hold:4^:",
        "hold^1", "judge:^4", "judge:1^0", "judge:0^0", "judge^1", "flip^:", "flip1^:", "flip0^1", "flip0;^;",
        "slow0;^5", "slow0;s^a", "judge:3;flip0;bound:20;hold:50;raise1:12;^=", "^a",
        "bo^b", "h^a", "j^a", "fl^a", "lo^a", "ra^a"};
    private static final String SOME_SIGNS = "singraeloftpbudhjw0123456789:,;!~";
    private static long seed = 77L;

    public static void main(String[] args) {
        append();
        clearBuffer();
        complete();
        incomplete();
        wrong();
        longTexts();
        changedTexts();
        eachPart();
        stopOfNotes();
        stopOfPitches();
        stopsGoOn();
        CHECKS.finish();
    }

    private static SlowTunes written(String text) {
        SlowTunes tunes = new SlowTunes();
        Checks.write(tunes, text);
        return tunes;
    }

    private static void append() {
        SlowTunes tunes = new SlowTunes();
        CHECKS.same("append(33)", tunes.append(33), 1);
        CHECKS.same("append(126)", tunes.append(126), 2);
        CHECKS.same("saved by append", tunes.savedStates(), 0);
        for (int wrong : Checks.row(32, 127, 0, -1, Integer.MIN_VALUE, Integer.MAX_VALUE)) {
            CHECKS.refused("append(" + wrong + ")", tunes, Checks.BAD_NUMBER, () -> tunes.append(wrong));
        }
        for (int length = 3; length <= 60; length++) {
            CHECKS.same("append(65)", tunes.append(65), length);
        }
        CHECKS.refused("append(65) to 60", tunes, Checks.BAD_STATE, () -> tunes.append(65));
        CHECKS.refused("append(32) to 60", tunes, Checks.BAD_NUMBER, () -> tunes.append(32));
        CHECKS.same("clearBuffer() of 60", tunes.clearBuffer(), 60);
        CHECKS.same("append behind it", tunes.append(65), 1);
    }

    private static void clearBuffer() {
        SlowTunes tunes = written("slow0");
        CHECKS.same("clearBuffer()", tunes.clearBuffer(), 5);
        CHECKS.same("clearBuffer() again", tunes.clearBuffer(), 0);
        CHECKS.same("saved by clearBuffer", tunes.savedStates(), 0);
        CHECKS.refused("work() behind it", tunes, Checks.BAD_NUMBER, () -> tunes.work());
        Checks.write(tunes, "x");
        CHECKS.same("firstError() behind it", tunes.firstError(), 0);
    }

    private static void complete() {
        for (String text : COMPLETE) {
            SlowTunes tunes = written(text);
            CHECKS.same("firstError() of " + text, tunes.firstError(), text.length());
            CHECKS.same("work() of " + text, tunes.work(), text.split(";").length);
            CHECKS.same("the buffer behind " + text, tunes.clearBuffer(), 0);
            CHECKS.same("saved by " + text, tunes.savedStates(), 1);
            CHECKS.same("stop of " + text, tunes.hasStopped(), false);
        }
    }

    /** Each beginning of a text has no error; it is worked only if it is a whole text itself. */
    private static void incomplete() {
        for (String text : COMPLETE) {
            for (int length = 0; length < text.length(); length++) {
                String begin = text.substring(0, length);
                SlowTunes tunes = written(begin);
                CHECKS.same("firstError() of " + begin, tunes.firstError(), length);
                if (!Model.isComplete(begin)) {
                    CHECKS.refused("work() of " + begin, tunes, Checks.BAD_NUMBER, () -> tunes.work());
                    CHECKS.same("the buffer behind " + begin, tunes.clearBuffer(), length);
                }
            }
        }
    }

    private static void wrong() {
        for (String marked : WRONG) {
            int index = marked.indexOf('^');
            String text = marked.replace("^", "");
            SlowTunes tunes = written(text);
            CHECKS.same("firstError() of " + text, tunes.firstError(), index);
            CHECKS.refused("work() of " + text, tunes, Checks.BAD_NUMBER, () -> tunes.work());
            CHECKS.same("the buffer behind " + text, tunes.clearBuffer(), text.length());
        }
    }

    /** What the text tells may be longer than the buffer and the tunes are. */
    private static void longTexts() {
        SlowTunes cut = written("slow0;slow0;slow0;slow0;slow0;slow0;slow0;slow0;slow0;slow0;");
        CHECKS.same("firstError() of a text that is cut", cut.firstError(), 60);
        CHECKS.refused("work() of it", cut, Checks.BAD_NUMBER, () -> cut.work());
        SlowTunes many = written("sing0:1,2,3,4,5,6,7,8,9,1,2,3,4,5,6,7,8,9,1,2,3,4,5,6,7,8,9");
        CHECKS.same("firstError() of 27 pitches", many.firstError(), 59);
        CHECKS.same("work() of 27 pitches", many.work(), 0);
        CHECKS.same("why", many.whyStopped(), 1);
        SlowTunes full = written("bound:3;flip0;judge:3;flip1;slow0;slow1;hold:50;bound:20;fli");
        CHECKS.same("firstError() of a full buffer", full.firstError(), 60);
    }

    private static int next(int below) {
        seed = seed * 6364136223846793005L + 1442695040888963407L;
        return (int) ((seed >>> 33) % below);
    }

    /** Texts in which a few characters are others, by the pattern of the model. */
    private static void changedTexts() {
        for (int round = 0; round < 4000; round++) {
            StringBuilder text = new StringBuilder(COMPLETE[next(COMPLETE.length)]);
            for (int more = next(3); more > 0; more--) {
                text.append(';').append(COMPLETE[next(COMPLETE.length)]);
            }
            text.setLength(Math.min(60, text.length()));
            for (int changes = next(3); changes > 0; changes--) {
                text.setCharAt(next(text.length()), SOME_SIGNS.charAt(next(SOME_SIGNS.length())));
            }
            SlowTunes tunes = written(text.toString());
            CHECKS.same("firstError() of " + text, tunes.firstError(), Model.firstError(text.toString()));
            CHECKS.same("complete: " + text, isWorked(tunes), Model.isComplete(text.toString()));
        }
    }

    private static boolean isWorked(SlowTunes tunes) {
        try {
            return tunes.work() >= 0;
        } catch (IllegalArgumentException thrown) {
            return false;
        }
    }

    private static SlowTunes worked(SlowTunes tunes, String text, int done) {
        Checks.write(tunes, text);
        CHECKS.same("work() of " + text, tunes.work(), done);
        return tunes;
    }

    private static void eachPart() {
        SlowTunes tunes = worked(new SlowTunes(), "sing0:10,20,0;sing1:60", 2);
        CHECKS.sameTune("sung", tunes, 0, 10, 20, 0);
        CHECKS.sameTune("sung", tunes, 1, 60);
        worked(tunes, "sing0:4,5", 1);
        CHECKS.sameTune("sung again", tunes, 0, 4, 5);
        worked(tunes, "raise0:12;lower1:11", 2);
        CHECKS.sameTune("raised", tunes, 0, 16, 17);
        CHECKS.sameTune("lowered", tunes, 1, 49);
        worked(tunes, "slow0;flip0;slow1", 3);
        CHECKS.sameTune("slow and flipped", tunes, 0, 17, 17, 16, 16);
        CHECKS.sameTune("slow", tunes, 1, 49, 49);
        worked(tunes, "bound:12;hold:34;judge:2", 3);
        CHECKS.same("bound()", tunes.bound(), 12);
        CHECKS.same("hold()", tunes.hold(), 34);
        CHECKS.same("judge()", tunes.judge(), 2);
        CHECKS.same("saved by five texts", tunes.savedStates(), 5);
        tunes.undo();
        CHECKS.same("bound() undone", tunes.bound(), 20);
        CHECKS.same("hold() undone", tunes.hold(), 1);
        tunes.undo();
        CHECKS.sameTune("undone", tunes, 0, 16, 17);
    }

    private static void stopOfNotes() {
        SlowTunes tunes = new SlowTunes();
        CHECKS.refused("stoppedPart() at first", tunes, Checks.BAD_STATE, () -> tunes.stoppedPart());
        CHECKS.refused("whyStopped() at first", tunes, Checks.BAD_STATE, () -> tunes.whyStopped());
        worked(tunes, "sing0:1,2,3;slow0;slow0;slow0;flip0", 3);
        CHECKS.same("hasStopped()", tunes.hasStopped(), true);
        CHECKS.same("stoppedPart()", tunes.stoppedPart(), 3);
        CHECKS.same("whyStopped()", tunes.whyStopped(), 1);
        CHECKS.same("the buffer behind a stop", tunes.clearBuffer(), 0);
        CHECKS.sameTune("stopped", tunes, 0, 1, 1, 1, 1, 2, 2, 2, 2, 3, 3, 3, 3);
        worked(tunes, "flip0;sing0:1,1,1,1,1,1,1,1,1,1,1,1,1,1,1,1,1,1,1,1,1", 1);
        CHECKS.same("whyStopped() of 21 sung", tunes.whyStopped(), 1);
        CHECKS.same("stoppedPart() of 21 sung", tunes.stoppedPart(), 1);
        CHECKS.sameTune("not sung", tunes, 0, 3, 3, 3, 3, 2, 2, 2, 2, 1, 1, 1, 1);
        worked(tunes, "sing0:1,1,1,1,1,1,1,1,1,1,1,1,1,1,1,1,1,1,1,1", 1);
        CHECKS.same("notes(0) of 20 sung", tunes.notes(0), 20);
        CHECKS.same("hasStopped() of 20 sung", tunes.hasStopped(), false);
    }

    private static void stopOfPitches() {
        SlowTunes tunes = worked(new SlowTunes(), "sing1:48,0;raise1:12;raise1:1", 2);
        CHECKS.same("whyStopped() of raise", tunes.whyStopped(), 2);
        CHECKS.same("stoppedPart() of raise", tunes.stoppedPart(), 2);
        CHECKS.sameTune("raised", tunes, 1, 60, 12);
        worked(tunes, "lower1:12;lower1:1;slow1", 1);
        CHECKS.same("whyStopped() of lower", tunes.whyStopped(), 2);
        CHECKS.same("stoppedPart() of lower", tunes.stoppedPart(), 1);
        CHECKS.sameTune("lowered", tunes, 1, 48, 0);
        worked(tunes, "raise0:12;lower0:12", 2);
        CHECKS.same("hasStopped() of an empty tune", tunes.hasStopped(), false);
    }

    private static void stopsGoOn() {
        SlowTunes tunes = worked(new SlowTunes(), "sing0:0", 1);
        worked(tunes, "lower0:1", 0);
        CHECKS.same("saved, though nothing is done", tunes.savedStates(), 2);
        CHECKS.same("stoppedPart() 0", tunes.stoppedPart(), 0);
        tunes.addNote(0, 5);
        CHECKS.same("hasStopped() behind addNote", tunes.hasStopped(), true);
        Checks.write(tunes, "slow");
        CHECKS.refused("work() of slow", tunes, Checks.BAD_NUMBER, () -> tunes.work());
        CHECKS.same("hasStopped() behind a throw", tunes.hasStopped(), true);
        tunes.append('0');
        CHECKS.same("work() of slow0", tunes.work(), 1);
        CHECKS.same("hasStopped() behind slow0", tunes.hasStopped(), false);
        CHECKS.refused("stoppedPart() behind slow0", tunes, Checks.BAD_STATE, () -> tunes.stoppedPart());
        CHECKS.refused("whyStopped() behind slow0", tunes, Checks.BAD_STATE, () -> tunes.whyStopped());
        tunes.undo();
        CHECKS.same("hasStopped() undone", tunes.hasStopped(), true);
        CHECKS.same("whyStopped() undone", tunes.whyStopped(), 2);
        tunes.undo();
        tunes.undo();
        CHECKS.same("hasStopped() ahead of the stop", tunes.hasStopped(), false);
    }
}
