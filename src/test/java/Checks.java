import java.util.function.LongSupplier;

/** Counts the answers that are not the ones that are due, and ends the test with them. */
final class Checks {
    static final Class<IndexOutOfBoundsException> NO_INDEX = IndexOutOfBoundsException.class;
    static final Class<IllegalArgumentException> BAD_NUMBER = IllegalArgumentException.class;
    static final Class<IllegalStateException> BAD_STATE = IllegalStateException.class;

    /** A call with one number, for tests that give it several. */
    interface CallWith {
        long on(int number);
    }

    /** A call on an object that the test makes. */
    interface Call {
        long on(SlowTunes tunes);
    }

    private final String name;
    private String sentence = "";
    private int madeAheadOfSentence = 0;
    private int made = 0;
    private int wrong = 0;

    Checks(String name) {
        this.name = name;
    }

    /** The checks behind this call, up to the next one, are for these words of the document. */
    void sentence(String place, String words) {
        endSentence();
        sentence = place + ", \"" + words + "\": ";
        madeAheadOfSentence = made;
    }

    /** A sentence that nothing was checked for is a fault of the test. */
    private void endSentence() {
        if (!sentence.isEmpty() && made == madeAheadOfSentence) {
            tell("nothing is checked");
        }
    }

    void same(String what, long got, long due) {
        made++;
        if (got != due) {
            tell(what + " answered " + got + ", due is " + due);
        }
    }

    void same(String what, boolean got, boolean due) {
        same(what, got ? 1L : 0L, due ? 1L : 0L);
    }

    /** Doubles are the same if their bits are. */
    void sameShare(String what, double got, double due) {
        made++;
        if (Double.doubleToLongBits(got) != Double.doubleToLongBits(due)) {
            tell(what + " answered " + got + ", due is " + due);
        }
    }

    /** The call throws just this exception, and the digest of the object stays as it was. */
    void refused(String what, SlowTunes tunes, Class<? extends RuntimeException> due, LongSupplier call) {
        long before = tunes.digest();
        String got;
        try {
            got = "answered " + call.getAsLong();
        } catch (RuntimeException thrown) {
            got = thrown.getClass() == due ? "" : "threw " + thrown.getClass().getName();
        }
        made++;
        if (!got.isEmpty()) {
            tell(what + " " + got + ", due is a throw of " + due.getName());
        }
        same(what + ", the digest behind it", tunes.digest(), before);
    }

    private void tell(String text) {
        wrong++;
        System.out.println(name + ": " + sentence + text);
    }

    void finish() {
        endSentence();
        System.out.println(name + ": " + made + " checks, " + wrong + " wrong");
        if (wrong != 0 || made == 0) {
            System.exit(1);
        }
    }

    // ---- what several tests make

    static SlowTunes tunesOf(int[] zero, int[] one) {
        SlowTunes tunes = new SlowTunes();
        for (int pitch : zero) {
            tunes.addNote(0, pitch);
        }
        for (int pitch : one) {
            tunes.addNote(1, pitch);
        }
        return tunes;
    }

    static int[] row(int... pitches) {
        return pitches;
    }

    static int[] repeated(int pitch, int times) {
        int[] pitches = new int[times];
        java.util.Arrays.fill(pitches, pitch);
        return pitches;
    }

    static int[] rising(int lowest, int length) {
        int[] pitches = new int[length];
        for (int note = 0; note < length; note++) {
            pitches[note] = lowest + note;
        }
        return pitches;
    }

    static void write(SlowTunes tunes, String text) {
        for (int index = 0; index < text.length(); index++) {
            tunes.append(text.charAt(index));
        }
    }

    void sameTune(String what, SlowTunes tunes, int tune, int... due) {
        same(what + ": notes(" + tune + ")", tunes.notes(tune), due.length);
        for (int note = 0; note < Math.min(due.length, tunes.notes(tune)); note++) {
            same(what + ": pitch(" + tune + ", " + note + ")", tunes.pitch(tune, note), due[note]);
        }
    }
}
