/** The boundaries that the document names for texts: "Input text", and promises 12 to 18. */
public final class TextsBoundsTest {
    private static final String[] WITH_TUNE = {"sing", "raise", "lower", "slow", "flip"};
    private static final String[] WITH_COLON = {"sing0", "sing1", "raise0", "lower1", "bound", "hold", "judge"};
    private static final String[] WORDS = {"sing", "raise", "lower", "slow", "flip", "bound", "hold", "judge"};
    /** A text of 60 characters that goes on behind them. */
    private static final String CUT = "flip0;".repeat(10);
    /** The most parts that a buffer holds: ten, with 59 characters. */
    private static final String TEN_PARTS = "flip0;".repeat(9) + "flip0";
    private static final Checks CHECKS = new Checks("TextsBoundsTest");

    public static void main(String[] args) {
        textOfParts();
        words();
        tunes();
        colons();
        pitches();
        numbers();
        leadingZeros();
        readingOn();
        append();
        clearBuffer();
        firstError();
        work();
        workIsOneCall();
        workIsRefused();
        hasStopped();
        stoppedPart();
        whyStoppedOfNotes();
        whyStoppedOfPitches();
        CHECKS.finish();
    }

    private static SlowTunes written(String text) {
        SlowTunes tunes = new SlowTunes();
        Checks.write(tunes, text);
        return tunes;
    }

    /** No character is an error, and the text is worked. */
    private static void isText(String text, int done) {
        SlowTunes tunes = written(text);
        CHECKS.same("firstError() of " + text, tunes.firstError(), text.length());
        CHECKS.same("work() of " + text, tunes.work(), done);
    }

    /** No character is an error, but more must follow. */
    private static void isBegin(String text) {
        SlowTunes tunes = written(text);
        CHECKS.same("firstError() of " + text, tunes.firstError(), text.length());
        CHECKS.refused("work() of " + text, tunes, Checks.BAD_NUMBER, () -> tunes.work());
    }

    /** The character of the index is the first error. */
    private static void isWrong(String text, int index) {
        SlowTunes tunes = written(text);
        CHECKS.same("firstError() of " + text, tunes.firstError(), index);
        CHECKS.refused("work() of " + text, tunes, Checks.BAD_NUMBER, () -> tunes.work());
    }

    private static int worked(SlowTunes tunes, String text) {
        Checks.write(tunes, text);
        return tunes.work();
    }

    private static String pitchesOf(int count) {
        return "5,".repeat(count - 1) + "5";
    }

    private static void textOfParts() {
        CHECKS.sentence("Input text", "Works as a text are one or more parts");
        isBegin("");
        isText("slow0", 1);
        isText("slow0;slow1", 2);
        isText(TEN_PARTS, 10);
        CHECKS.sentence("Input text", "with \";\" between them");
        isWrong(";", 0);
        isWrong(";slow0", 0);
        isBegin("slow0;");
        isWrong("slow0;;", 6);
        isWrong("slow0,slow1", 5);
        isWrong("slow0slow1", 5);
        isWrong("sing0:1slow1", 7);
    }

    private static void isLetter(String letters) {
        for (String word : WORDS) {
            if (word.startsWith(letters)) {
                isBegin(letters);
                return;
            }
        }
        isWrong(letters, letters.length() - 1);
    }

    private static void words() {
        CHECKS.sentence("Input text", "each a word, and what stands behind it");
        for (String word : WORDS) {
            isBegin(word);
            for (int index = 0; index < word.length(); index++) {
                for (char letter = 'a'; letter <= 'z'; letter++) {
                    isLetter(word.substring(0, index) + letter);
                }
                isWrong(word.substring(0, index) + Character.toUpperCase(word.charAt(index)), index);
                isWrong("flip1;" + word.substring(0, index) + ";", index + 6);
            }
        }
    }

    private static void tunes() {
        CHECKS.sentence("Input text", "a tune, \"0\" or \"1\"");
        for (String word : WITH_TUNE) {
            isWrong(word + "/", word.length());
            CHECKS.same(word + "0", written(word + "0").firstError(), word.length() + 1);
            CHECKS.same(word + "1", written(word + "1").firstError(), word.length() + 1);
            isWrong(word + "2", word.length());
            isWrong(word + "9", word.length());
            isWrong(word + ":", word.length());
            isWrong(word + ";", word.length());
            isWrong(word + "00", word.length() + 1);
        }
        isText("slow0", 1);
        isText("slow1", 1);
        isText("flip0", 1);
        isText("flip1", 1);
    }

    private static void colons() {
        CHECKS.sentence("Input text", "\":\", and a number");
        for (String begin : WITH_COLON) {
            isBegin(begin);
            isBegin(begin + ":");
            isText(begin + ":1", 1);
            isWrong(begin + ";", begin.length());
            isWrong(begin + "9", begin.length());
            isWrong(begin + "::", begin.length() + 1);
            isWrong(begin + ":;", begin.length() + 1);
            isWrong(begin + ":,", begin.length() + 1);
            isWrong(begin + ":/", begin.length() + 1);
            isWrong(begin + ":-1", begin.length() + 1);
            isWrong(begin + ":+1", begin.length() + 1);
            isWrong(begin + ":1:", begin.length() + 2);
            isWrong(begin + ":1/", begin.length() + 2);
        }
        CHECKS.sentence("Input text", "\"slow\" and a tune; \"flip\" and a tune");
        isWrong("slow0:", 5);
        isWrong("flip1:1", 5);
    }

    /** Every number from 0 to 199, by where its digits leave the numbers from the least one to the greatest one. */
    private static void numbersOf(String begin, int least, int most) {
        for (int number = 0; number <= 199; number++) {
            String digits = String.valueOf(number);
            int taken = 0;
            for (int length = 1; length <= digits.length() && taken == length - 1; length++) {
                int read = Integer.parseInt(digits.substring(0, length));
                taken += read >= least && read <= most ? 1 : 0;
            }
            String text = begin + digits;
            if (taken == digits.length()) {
                isText(text, 1);
            } else {
                isWrong(text, begin.length() + taken);
            }
        }
    }

    private static void pitches() {
        CHECKS.sentence("Input text", "one or more pitches, 0 to 60");
        isBegin("sing0:");
        numbersOf("sing0:", 0, 60);
        numbersOf("sing1:", 0, 60);
        numbersOf("sing1:60,0,", 0, 60);
        CHECKS.sentence("Input text", "with \",\" between them");
        isBegin("sing0:1,");
        isWrong("sing0:,", 6);
        isWrong("sing0:1,,", 8);
        isWrong("sing0:1,;", 8);
        isWrong("sing0:1;2", 8);
        isWrong("raise0:1,", 8);
        isWrong("lower0:1,", 8);
        isWrong("bound:1,", 7);
        isWrong("hold:1,", 6);
        isWrong("judge:1,", 7);
        CHECKS.sentence("Input text", "(the tune has these notes then)");
        SlowTunes tunes = Checks.tunesOf(Checks.rising(0, 20), Checks.row(8));
        CHECKS.same("one pitch, in place of 20 notes", worked(tunes, "sing0:60"), 1);
        CHECKS.sameTune("one pitch, in place of 20 notes", tunes, 0, 60);
        CHECKS.sameTune("the other tune", tunes, 1, 8);
        CHECKS.same("20 pitches", worked(tunes, "sing1:" + pitchesOf(20)), 1);
        CHECKS.sameTune("20 pitches", tunes, 1, Checks.repeated(5, 20));
    }

    private static void numbers() {
        CHECKS.sentence("Input text", "a number from 1 to 12");
        numbersOf("raise0:", 1, 12);
        numbersOf("lower1:", 1, 12);
        CHECKS.sentence("Input text", "(all pitches become so much greater or less)");
        SlowTunes tunes = new SlowTunes();
        CHECKS.same("raised by 12", worked(tunes, "sing0:0,24,48;raise0:12"), 2);
        CHECKS.sameTune("raised by 12", tunes, 0, 12, 36, 60);
        CHECKS.same("lowered by 12", worked(tunes, "lower0:12"), 1);
        CHECKS.sameTune("lowered by 12", tunes, 0, 0, 24, 48);
        CHECKS.same("raised by 1", worked(tunes, "raise0:1"), 1);
        CHECKS.sameTune("raised by 1", tunes, 0, 1, 25, 49);
        CHECKS.same("lowered by 1", worked(tunes, "lower0:1"), 1);
        CHECKS.sameTune("lowered by 1", tunes, 0, 0, 24, 48);
        CHECKS.sentence("Input text", "\"bound\", \":\", and a bound, 0 to 20");
        numbersOf("bound:", 0, 20);
        CHECKS.same("the least one", worked(tunes, "bound:0"), 1);
        CHECKS.same("the least one", tunes.bound(), 0);
        CHECKS.same("the greatest one", worked(tunes, "bound:20"), 1);
        CHECKS.same("the greatest one", tunes.bound(), 20);
        CHECKS.sentence("Input text", "\"hold\", \":\", and a price, 0 to 50");
        numbersOf("hold:", 0, 50);
        CHECKS.same("the least one", worked(tunes, "hold:0"), 1);
        CHECKS.same("the least one", tunes.hold(), 0);
        CHECKS.same("the greatest one", worked(tunes, "hold:50"), 1);
        CHECKS.same("the greatest one", tunes.hold(), 50);
        CHECKS.sentence("Input text", "\"judge\", \":\", and a judge, 0 to 3");
        numbersOf("judge:", 0, 3);
        CHECKS.same("the greatest one", worked(tunes, "judge:3"), 1);
        CHECKS.same("the greatest one", tunes.judge(), 3);
        CHECKS.same("the least one", worked(tunes, "judge:0"), 1);
        CHECKS.same("the least one", tunes.judge(), 0);
    }

    private static void leadingZeros() {
        CHECKS.sentence("Input text", "Numbers have no leading zeros");
        for (String begin : new String[] {"sing0:", "sing1:7,", "bound:", "hold:", "judge:"}) {
            isText(begin + "0", 1);
            isWrong(begin + "00", begin.length() + 1);
            isWrong(begin + "01", begin.length() + 1);
            isWrong(begin + "09", begin.length() + 1);
        }
        isWrong("raise0:01", 7);
        isWrong("lower1:012", 7);
    }

    private static void readingOn() {
        CHECKS.sentence("Input text", "The buffer is read from left to right");
        isWrong("slow2;x;flip7", 4);
        isWrong("flip0;slow0;flip0x;slow3", 17);
        CHECKS.sentence("Input text", "no works as a text, of any length, begin with the characters");
        isBegin(CUT);
        isBegin("sing0:" + "1,".repeat(27));
        isBegin("sing0:" + "60,".repeat(18));
        isBegin("flip1;sing1:" + "1,".repeat(24));
        isBegin(TEN_PARTS.substring(0, 54) + "judge:");
        isText("sing0:" + pitchesOf(27), 0);
        isWrong("sing0:" + "1,".repeat(26) + "1x", 59);
        isWrong(TEN_PARTS + "0", 59);
    }

    private static void append() {
        CHECKS.sentence("Promise 12", "code: the character code, 33 to 126");
        SlowTunes tunes = new SlowTunes();
        for (int code = 33; code <= 126; code++) {
            tunes.clearBuffer();
            CHECKS.same("append(" + code + ")", tunes.append(code), 1);
        }
        CHECKS.sentence("Promise 12", "Throws IllegalArgumentException if code is not 33 to 126");
        for (int wrong : Checks.row(32, 127, 0, -1, -33, 256 + 65, 65536 + 65, Integer.MIN_VALUE, Integer.MAX_VALUE)) {
            CHECKS.refused("append(" + wrong + ")", tunes, Checks.BAD_NUMBER, () -> tunes.append(wrong));
        }
        CHECKS.sentence("Promise 12", "Returns the new length of the buffer");
        SlowTunes growing = new SlowTunes();
        for (int length = 1; length <= 60; length++) {
            CHECKS.same("append(126)", growing.append(126), length);
        }
        CHECKS.sentence("Promise 12", "Throws IllegalStateException if the buffer has 60 characters");
        CHECKS.refused("append(126)", growing, Checks.BAD_STATE, () -> growing.append(126));
        CHECKS.refused("append(33)", growing, Checks.BAD_STATE, () -> growing.append(33));
        CHECKS.same("what it had", growing.clearBuffer(), 60);
        CHECKS.same("append(33) then", growing.append(33), 1);
    }

    private static void clearBuffer() {
        CHECKS.sentence("Promise 13", "Returns the length that it had");
        CHECKS.same("an empty one", new SlowTunes().clearBuffer(), 0);
        CHECKS.same("one character", written("x").clearBuffer(), 1);
        SlowTunes full = written(CUT);
        CHECKS.same("a full one", full.clearBuffer(), 60);
        CHECKS.sentence("Promise 13", "Clears the buffer");
        CHECKS.same("again", full.clearBuffer(), 0);
        CHECKS.same("firstError()", full.firstError(), 0);
        CHECKS.refused("work()", full, Checks.BAD_NUMBER, () -> full.work());
        CHECKS.same("a text behind it", worked(full, "slow1"), 1);
    }

    private static void firstError() {
        CHECKS.sentence("Promise 14", "Returns the index of the first character that is a syntax error");
        CHECKS.same("the first one", written("!flip0").firstError(), 0);
        CHECKS.same("the last one of 60", written(TEN_PARTS + "~").firstError(), 59);
        CHECKS.same("the first one of 60", written("~".repeat(60)).firstError(), 0);
        CHECKS.sentence("Promise 14", "the length of the buffer if there is none");
        CHECKS.same("an empty one", new SlowTunes().firstError(), 0);
        CHECKS.same("one character", written("s").firstError(), 1);
        SlowTunes full = written(CUT);
        CHECKS.same("60 characters", full.firstError(), 60);
        CHECKS.same("60 characters again", full.firstError(), 60);
        CHECKS.same("the buffer behind it", full.clearBuffer(), 60);
    }

    private static void work() {
        CHECKS.sentence("Promise 15", "Does what the buffer tells, part by part, up to the first part that is not possible");
        SlowTunes tunes = new SlowTunes();
        CHECKS.same("the first part", worked(tunes, "sing0:" + pitchesOf(21) + ";hold:9"), 0);
        CHECKS.sameTune("the first part", tunes, 0);
        CHECKS.same("a part behind it", tunes.hold(), 1);
        CHECKS.same("the second part", worked(tunes, "sing0:60,0,60;raise0:1;slow0"), 1);
        CHECKS.sameTune("the second part does nothing", tunes, 0, 60, 0, 60);
        CHECKS.same("the third part", worked(tunes, "hold:9;judge:2;lower0:1;bound:0"), 2);
        CHECKS.same("the price ahead of it", tunes.hold(), 9);
        CHECKS.same("the judge ahead of it", tunes.judge(), 2);
        CHECKS.same("the bound behind it", tunes.bound(), 20);
        CHECKS.sameTune("the third part does nothing", tunes, 0, 60, 0, 60);
        CHECKS.sentence("Promise 15", "Returns how many parts are done");
        SlowTunes full = Checks.tunesOf(Checks.row(1, 2), Checks.rising(0, 20));
        CHECKS.same("as many as a buffer holds", worked(full, TEN_PARTS), 10);
        CHECKS.sameTune("flipped ten times", full, 0, 1, 2);
        CHECKS.same("all but the last of ten", worked(full, "flip0;".repeat(9) + "slow1"), 9);
        CHECKS.sameTune("flipped nine times", full, 0, 2, 1);
        CHECKS.sentence("Promise 15", "and clears the buffer");
        CHECKS.same("behind a stop", full.clearBuffer(), 0);
        worked(full, TEN_PARTS);
        CHECKS.same("behind ten parts", full.clearBuffer(), 0);
        CHECKS.same("the buffer takes 60 again", written(CUT).firstError(), 60);
    }

    private static void workIsOneCall() {
        CHECKS.sentence("Promise 15", "Undoable, as one call, also if nothing is done");
        SlowTunes tunes = Checks.tunesOf(Checks.row(60), Checks.row(0));
        long before = tunes.digest();
        CHECKS.same("eight parts", worked(tunes, "flip0;slow0;hold:8;flip1;slow1;judge:3;raise1:1;flip1"), 8);
        CHECKS.same("savedStates()", tunes.savedStates(), 3);
        CHECKS.same("undo()", tunes.undo(), 2);
        CHECKS.same("digest() undone", tunes.digest(), before);
        CHECKS.same("nothing", worked(tunes, "raise0:1"), 0);
        CHECKS.same("savedStates() of nothing", tunes.savedStates(), 3);
        CHECKS.same("undo() of nothing", tunes.undo(), 2);
        CHECKS.same("digest() undone", tunes.digest(), before);
    }

    private static void workIsRefused() {
        CHECKS.sentence("Promise 15", "if the buffer is not complete works as a text (the buffer stays)");
        for (String text : new String[] {"", "s", "slow", "slow0;", "sing0:", "sing0:1,", "slow0x", CUT, "~".repeat(60)}) {
            SlowTunes tunes = written(text);
            CHECKS.refused("work() of " + text, tunes, Checks.BAD_NUMBER, () -> tunes.work());
            CHECKS.same("the buffer of " + text, tunes.clearBuffer(), text.length());
        }
        SlowTunes goesOn = written("slow");
        CHECKS.refused("work() of slow", goesOn, Checks.BAD_NUMBER, () -> goesOn.work());
        CHECKS.same("work() of slow1", worked(goesOn, "1"), 1);
    }

    private static void hasStopped() {
        SlowTunes tunes = Checks.tunesOf(Checks.row(60), Checks.row(7));
        CHECKS.sentence("Promise 16", "false without such a call");
        CHECKS.same("at first", tunes.hasStopped(), false);
        Checks.write(tunes, "raise0:1;");
        CHECKS.refused("work() of a begin", tunes, Checks.BAD_NUMBER, () -> tunes.work());
        CHECKS.same("behind an exception alone", tunes.hasStopped(), false);
        CHECKS.sentence("Promise 16", "stopped ahead of the end of its text");
        CHECKS.same("at the first part of two", worked(tunes, "slow1"), 0);
        CHECKS.same("at the first part of two", tunes.hasStopped(), true);
        CHECKS.same("at the last part", worked(tunes, "slow1;raise0:1"), 1);
        CHECKS.same("at the last part", tunes.hasStopped(), true);
        CHECKS.same("at the only part", worked(tunes, "raise0:1"), 0);
        CHECKS.same("at the only part", tunes.hasStopped(), true);
        CHECKS.sentence("Promise 16", "the latest call of work() that did not throw an exception");
        CHECKS.refused("work() of nothing", tunes, Checks.BAD_NUMBER, () -> tunes.work());
        CHECKS.same("behind an exception", tunes.hasStopped(), true);
        CHECKS.same("to its end", worked(tunes, "lower0:1"), 1);
        CHECKS.same("behind a call that goes to its end", tunes.hasStopped(), false);
        CHECKS.refused("work() of nothing", tunes, Checks.BAD_NUMBER, () -> tunes.work());
        CHECKS.same("behind another exception", tunes.hasStopped(), false);
    }

    private static void stoppedPart() {
        SlowTunes tunes = Checks.tunesOf(Checks.row(1, 2), Checks.rising(0, 20));
        CHECKS.sentence("Promise 17", "Throws IllegalStateException if it did not stop");
        CHECKS.refused("without a call", tunes, Checks.BAD_STATE, () -> tunes.stoppedPart());
        worked(tunes, "flip0");
        CHECKS.refused("behind a call to its end", tunes, Checks.BAD_STATE, () -> tunes.stoppedPart());
        CHECKS.sentence("Promise 17", "Returns the number, from 0");
        worked(tunes, "slow1;flip0");
        CHECKS.same("the first part", tunes.stoppedPart(), 0);
        worked(tunes, "flip0;".repeat(9) + "slow1");
        CHECKS.same("the last part of the most that a buffer holds", tunes.stoppedPart(), 9);
        worked(tunes, "flip0;slow1;slow1");
        CHECKS.same("the first one of two", tunes.stoppedPart(), 1);
        worked(tunes, "flip0");
        CHECKS.refused("behind a stop and a call to its end", tunes, Checks.BAD_STATE, () -> tunes.stoppedPart());
    }

    private static void whyStoppedOfNotes() {
        CHECKS.sentence("Promise 18", "Throws IllegalStateException if it did not stop");
        SlowTunes tunes = Checks.tunesOf(Checks.rising(0, 10), Checks.rising(0, 11));
        CHECKS.refused("without a call", tunes, Checks.BAD_STATE, () -> tunes.whyStopped());
        CHECKS.same("10 notes made slow", worked(tunes, "slow0"), 1);
        CHECKS.same("20 notes then", tunes.notes(0), 20);
        CHECKS.refused("behind 10 notes made slow", tunes, Checks.BAD_STATE, () -> tunes.whyStopped());
        CHECKS.sentence("Promise 18", "1: a tune would have had more than 20 notes");
        CHECKS.same("11 notes made slow", worked(tunes, "slow1"), 0);
        CHECKS.same("11 notes made slow", tunes.whyStopped(), 1);
        CHECKS.sameTune("11 notes made slow", tunes, 1, Checks.rising(0, 11));
        CHECKS.same("20 pitches sung", worked(tunes, "sing1:" + pitchesOf(20)), 1);
        CHECKS.same("20 pitches sung", tunes.hasStopped(), false);
        CHECKS.same("21 pitches sung", worked(tunes, "sing0:" + pitchesOf(21)), 0);
        CHECKS.same("21 pitches sung", tunes.whyStopped(), 1);
        CHECKS.same("21 pitches sung", tunes.pitch(0, 19), 9);
        CHECKS.same("27 pitches, as many as a buffer holds", worked(tunes, "sing0:" + pitchesOf(27)), 0);
        CHECKS.same("27 pitches, as many as a buffer holds", tunes.whyStopped(), 1);
    }

    private static void whyStoppedOfPitches() {
        CHECKS.sentence("Promise 18", "2: a pitch would have been out of range");
        SlowTunes tunes = Checks.tunesOf(Checks.row(48, 12), new int[0]);
        CHECKS.same("up to 60", worked(tunes, "raise0:12"), 1);
        CHECKS.same("up to 60", tunes.hasStopped(), false);
        CHECKS.same("up to 61", worked(tunes, "raise0:1"), 0);
        CHECKS.same("up to 61", tunes.whyStopped(), 2);
        CHECKS.same("down to 0", worked(tunes, "lower0:12;lower0:12"), 2);
        CHECKS.same("down to 0", tunes.hasStopped(), false);
        CHECKS.same("down to -1", worked(tunes, "lower0:1"), 0);
        CHECKS.same("down to -1", tunes.whyStopped(), 2);
        CHECKS.sameTune("down to -1", tunes, 0, 36, 0);
        CHECKS.same("an empty tune", worked(tunes, "raise1:12;lower1:12;slow1;flip1"), 4);
        CHECKS.same("an empty tune", tunes.hasStopped(), false);
    }
}
