import java.util.ArrayList;
import java.util.Arrays;

/** Two tunes matched though one was sung slower. ../shared/DOC.md promises what each call does. */
public final class SlowTunes {
    private static final int TUNES = 2;
    private static final int MOST_NOTES = 20;
    private static final int MOST_PITCH = 60;
    private static final int MOST_SHIFT = 12;
    private static final int MOST_BOUND = 20;
    private static final int MOST_PRICE = 50;
    private static final int MOST_SAVED = 6;
    private static final int MOST_COUNTED = 1000000;
    private static final int MOST_PAIRS = 2 * MOST_NOTES - 1;

    private static final int PLAIN = 0;
    private static final int STRICT = 1;
    private static final int OF_OCTAVES = 2;
    private static final int KIND = 3;
    private static final int OCTAVE = 12;

    private static final int MOST_CODES = 60;
    private static final int LEAST_CODE = 33;
    private static final int MOST_CODE = 126;

    // A cost that no row of pairs reaches; a price and a difference added to it stay an int.
    private static final int FAR = 1000000000;
    private static final int NOTHING = -1;

    private static final int NO_STEP = 0;
    private static final int BOTH = 1;
    private static final int ONLY_ZERO = 2;
    private static final int ONLY_ONE = 3;

    private static final int POSSIBLE = 0;
    private static final int TOO_MANY_NOTES = 1;
    private static final int PITCH_OUT_OF_RANGE = 2;

    private static final long FIRST_HASH = 4547L;
    private static final int FRACTION_BITS = 52;
    private static final int EXPONENT_OF_ONE = 1023;

    private static final Word[] WORDS = Word.values();

    private final State now = new State();
    private final ArrayList<State> saved = new ArrayList<State>();
    private final State kept = new State();
    private boolean isKept = false;
    private final int[] codes = new int[MOST_CODES];
    private int codesLength = 0;
    private final Reader reader = new Reader();
    private final Matches matches = new Matches();
    private boolean matchesAreOld = true;
    private final Grid trial = new Grid();
    private final Parts parts = new Parts();

    public SlowTunes() {
    }

    // ---- tunes

    public int addNote(int tune, int pitch)
            throws IndexOutOfBoundsException, IllegalArgumentException, IllegalStateException {
        Tune changed = tuneAt(tune);
        checkRange(pitch, 0, MOST_PITCH);
        if (changed.length >= MOST_NOTES) {
            throw new IllegalStateException("the tune is full");
        }
        saveState();
        changed.add(pitch);
        return changed.length;
    }

    public int setNote(int tune, int note, int pitch)
            throws IndexOutOfBoundsException, IllegalArgumentException {
        Tune changed = tuneAt(tune);
        checkNote(changed, note);
        checkRange(pitch, 0, MOST_PITCH);
        saveState();
        int before = changed.pitchOf(note);
        changed.put(note, pitch);
        return before;
    }

    public int dropNote(int tune, int note) throws IndexOutOfBoundsException {
        Tune changed = tuneAt(tune);
        checkNote(changed, note);
        saveState();
        int dropped = changed.pitchOf(note);
        changed.takeOut(note);
        return dropped;
    }

    public int shift(int tune, int by)
            throws IndexOutOfBoundsException, IllegalArgumentException, IllegalStateException {
        Tune changed = tuneAt(tune);
        checkRange(by, -MOST_SHIFT, MOST_SHIFT);
        if (!changed.canRise(by)) {
            throw new IllegalStateException("a pitch would be out of range");
        }
        saveState();
        changed.rise(by);
        return changed.length;
    }

    public int slow(int tune) throws IndexOutOfBoundsException, IllegalStateException {
        Tune changed = tuneAt(tune);
        if (!changed.canDouble()) {
            throw new IllegalStateException("there would be too many notes");
        }
        saveState();
        changed.doubleNotes();
        return changed.length;
    }

    public int flip(int tune) throws IndexOutOfBoundsException {
        Tune changed = tuneAt(tune);
        saveState();
        changed.turnRound();
        return changed.length;
    }

    public int exchange() {
        saveState();
        now.swapTunes();
        return now.zero.length;
    }

    // ---- settings

    public int setBound(int notes) throws IllegalArgumentException {
        checkRange(notes, 0, MOST_BOUND);
        saveState();
        int before = now.farthest;
        now.farthest = notes;
        return before;
    }

    public int setHold(int price) throws IllegalArgumentException {
        checkRange(price, 0, MOST_PRICE);
        saveState();
        int before = now.price;
        now.price = price;
        return before;
    }

    public int setJudge(int judge) throws IllegalArgumentException {
        checkRange(judge, 0, KIND);
        saveState();
        int before = now.teller;
        now.teller = judge;
        return before;
    }

    // ---- texts

    public int append(int code) throws IllegalArgumentException, IllegalStateException {
        checkRange(code, LEAST_CODE, MOST_CODE);
        if (codesLength < 0 || codesLength >= codes.length) {
            throw new IllegalStateException("the buffer is full");
        }
        codes[codesLength] = code;
        codesLength++;
        return codesLength;
    }

    public int clearBuffer() {
        int before = codesLength;
        codesLength = 0;
        return before;
    }

    public int firstError() {
        return readUpToError();
    }

    public int work() throws IllegalArgumentException {
        if (readUpToError() < codesLength || !reader.isComplete()) {
            throw new IllegalArgumentException("the buffer is not complete works as a text");
        }
        saveState();
        now.stopReason = POSSIBLE;
        now.stopPart = 0;
        int done = doParts();
        codesLength = 0;
        return done;
    }

    public boolean hasStopped() {
        return now.stopReason != POSSIBLE;
    }

    public int stoppedPart() throws IllegalStateException {
        checkStopped();
        return now.stopPart;
    }

    public int whyStopped() throws IllegalStateException {
        checkStopped();
        return now.stopReason;
    }

    // ---- undo, the snapshot

    public int undo() throws IllegalStateException {
        if (saved.isEmpty()) {
            throw new IllegalStateException("no state is saved");
        }
        now.copyFrom(saved.remove(saved.size() - 1));
        matchesAreOld = true;
        return saved.size();
    }

    public int keep() {
        kept.copyFrom(now);
        isKept = true;
        return now.bothLengths();
    }

    public int restore() throws IllegalStateException {
        if (!isKept) {
            throw new IllegalStateException("there is no snapshot");
        }
        saveState();
        now.copyFrom(kept);
        return now.bothLengths();
    }

    public int savedStates() {
        return saved.size();
    }

    // ---- looks at tunes; nothing is changed

    public int notes(int tune) throws IndexOutOfBoundsException {
        return tuneAt(tune).length;
    }

    public int pitch(int tune, int note) throws IndexOutOfBoundsException {
        Tune asked = tuneAt(tune);
        checkNote(asked, note);
        return asked.pitchOf(note);
    }

    public int bound() {
        return now.farthest;
    }

    public int hold() {
        return now.price;
    }

    public int judge() {
        return now.teller;
    }

    public int unlike(int first, int second) throws IndexOutOfBoundsException {
        checkNote(now.zero, first);
        checkNote(now.one, second);
        return now.difference(first, second);
    }

    public int rises() {
        return now.zero.countRises() + now.one.countRises();
    }

    // ---- the best match

    public boolean isMatched() {
        return now.hasMatch();
    }

    public int cost() throws IllegalStateException {
        checkMatched();
        return found().leastFromBegin(now);
    }

    public int costFromEnd() throws IllegalStateException {
        checkMatched();
        return found().leastFromEnd();
    }

    public int costTo(int first, int second) throws IndexOutOfBoundsException {
        checkNote(now.zero, first);
        checkNote(now.one, second);
        return orNothing(found().leastTo(first, second));
    }

    public int pairs() throws IllegalStateException {
        checkMatched();
        return found().length;
    }

    public int noteOfPair(int tune, int pair) throws IndexOutOfBoundsException {
        checkTune(tune);
        Matches best = found();
        if (pair < 0 || pair >= best.length) {
            throw new IndexOutOfBoundsException("there is no such pair");
        }
        return best.noteOf(tune, pair);
    }

    public int stretch(int tune, int note) throws IndexOutOfBoundsException {
        checkNote(tuneAt(tune), note);
        return found().stretchOf(tune, note);
    }

    public int longestStretch(int tune) throws IndexOutOfBoundsException {
        checkTune(tune);
        return found().greatestStretch(tune);
    }

    public int holds() {
        return found().held;
    }

    public int bestMatches() {
        return found().number;
    }

    // ---- parts

    public int partCost() throws IllegalStateException {
        checkNoneEmpty();
        parts.find(now);
        return parts.least;
    }

    public int partBegin() throws IllegalStateException {
        checkNoneEmpty();
        parts.find(now);
        return parts.first;
    }

    public int partEnd() throws IllegalStateException {
        checkNoneEmpty();
        parts.find(now);
        return parts.last;
    }

    // ---- what would be; nothing is changed

    public int costWithShift(int by) throws IllegalArgumentException, IllegalStateException {
        checkRange(by, -MOST_SHIFT, MOST_SHIFT);
        checkMatched();
        return costIf(by, now.farthest);
    }

    public int bestShift() throws IllegalStateException {
        checkMatched();
        return nearestBestShift();
    }

    public int costWithBound(int notes) throws IllegalArgumentException {
        checkRange(notes, 0, MOST_BOUND);
        return orNothing(costIf(0, notes));
    }

    public int neededBound() {
        return leastNeededBound();
    }

    public double evenShare() {
        return found().shareOfBoth();
    }

    public long digest() {
        Matches best = found();
        Hash hash = new Hash();
        addTune(hash, now.zero);
        addTune(hash, now.one);
        addSettings(hash);
        addBest(hash, best);
        addPart(hash);
        hash.add(saved.size());
        addPairs(hash, best);
        addStretches(hash, best, 0);
        addStretches(hash, best, 1);
        addCosts(hash, best);
        addStop(hash);
        hash.add(bitsOf(best.shareOfBoth()));
        addBuffer(hash);
        return hash.value;
    }

    // ---- what calls are refused

    private static void checkTune(int tune) {
        if (tune < 0 || tune >= TUNES) {
            throw new IndexOutOfBoundsException("there is no such tune");
        }
    }

    private Tune tuneAt(int tune) {
        checkTune(tune);
        return now.tuneOf(tune);
    }

    private static void checkNote(Tune tune, int note) {
        if (!tune.hasNote(note)) {
            throw new IndexOutOfBoundsException("there is no such note");
        }
    }

    private static void checkRange(int value, int least, int most) {
        if (value < least || value > most) {
            throw new IllegalArgumentException("a number is out of range");
        }
    }

    private void checkMatched() {
        if (!now.hasMatch()) {
            throw new IllegalStateException("there is no match");
        }
    }

    private void checkNoneEmpty() {
        if (now.hasEmptyTune()) {
            throw new IllegalStateException("a tune is empty");
        }
    }

    private void checkStopped() {
        if (now.stopReason == POSSIBLE) {
            throw new IllegalStateException("the latest work did not stop");
        }
    }

    // ---- how the calls are answered

    /** Each undoable call comes through here ahead of its change, so the matches are old from here on. */
    private void saveState() {
        State room = saved.size() >= MOST_SAVED ? saved.remove(0) : new State();
        room.copyFrom(now);
        saved.add(room);
        matchesAreOld = true;
    }

    private Matches found() {
        if (matchesAreOld) {
            matches.find(now);
            matchesAreOld = false;
        }
        return matches;
    }

    private static int orNothing(int cost) {
        return cost >= FAR ? NOTHING : cost;
    }

    private int costIf(int by, int farthest) {
        trial.tellFromBegin(now, by, farthest);
        return trial.at(now.zero.length - 1, now.one.length - 1);
    }

    private int nearestBestShift() {
        int best = 0;
        int least = costIf(0, now.farthest);
        // Nearer shifts come first, and of two equally near ones the one above 0, so only a lesser cost wins.
        for (int far = 1; far <= MOST_SHIFT; far++) {
            int above = costIf(far, now.farthest);
            if (above < least) {
                least = above;
                best = far;
            }
            int below = costIf(-far, now.farthest);
            if (below < least) {
                least = below;
                best = -far;
            }
        }
        return best;
    }

    private int leastNeededBound() {
        if (now.hasEmptyTune()) {
            return NOTHING;
        }
        // No two notes are farther apart than the greatest bound, so it is as good as none.
        int least = costIf(0, MOST_BOUND);
        int farthest = now.lengthsApart();
        while (farthest < MOST_BOUND && costIf(0, farthest) != least) {
            farthest++;
        }
        return farthest;
    }

    private int readUpToError() {
        reader.begin();
        for (int index = 0; index < codesLength && index < codes.length; index++) {
            if (!reader.take(codes[index])) {
                return index;
            }
        }
        return codesLength;
    }

    /** Only for a buffer that has been read and is complete. */
    private int doParts() {
        int done = 0;
        reader.begin();
        for (int index = 0; index <= codesLength; index++) {
            int code = index < codesLength && index < codes.length ? codes[index] : ';';
            if (code == ';') {
                int reason = doPart();
                if (reason != POSSIBLE) {
                    now.stopReason = reason;
                    now.stopPart = done;
                    return done;
                }
                done++;
            }
            reader.take(code);
        }
        return done;
    }

    private int doPart() {
        Word word = reader.word;
        if (word.hasTune) {
            return doWithTune(word, now.tuneOf(reader.tune));
        }
        if (word == Word.BOUND) {
            now.farthest = reader.lastNumber();
        } else if (word == Word.HOLD) {
            now.price = reader.lastNumber();
        } else {
            now.teller = reader.lastNumber();
        }
        return POSSIBLE;
    }

    private int doWithTune(Word word, Tune tune) {
        if (word == Word.SING) {
            return reader.singTo(tune) ? POSSIBLE : TOO_MANY_NOTES;
        }
        if (word == Word.RAISE) {
            return raise(tune, reader.lastNumber());
        }
        if (word == Word.LOWER) {
            return raise(tune, -reader.lastNumber());
        }
        if (word == Word.FLIP) {
            tune.turnRound();
            return POSSIBLE;
        }
        if (!tune.canDouble()) {
            return TOO_MANY_NOTES;
        }
        tune.doubleNotes();
        return POSSIBLE;
    }

    private static int raise(Tune tune, int by) {
        if (!tune.canRise(by)) {
            return PITCH_OUT_OF_RANGE;
        }
        tune.rise(by);
        return POSSIBLE;
    }

    // ---- the parts of the digest

    private static void addTune(Hash hash, Tune tune) {
        hash.add(tune.length);
        for (int note = 0; note < tune.length; note++) {
            hash.add(tune.pitchOf(note));
        }
    }

    private void addSettings(Hash hash) {
        hash.add(now.farthest);
        hash.add(now.price);
        hash.add(now.teller);
        hash.add(now.zero.countRises() + now.one.countRises());
    }

    private void addBest(Hash hash, Matches best) {
        hash.addTruth(now.hasMatch());
        if (now.hasMatch()) {
            hash.add(best.leastFromBegin(now));
            hash.add(best.leastFromEnd());
            hash.add(best.length);
            hash.add(best.held);
            hash.add(best.number);
            hash.add(nearestBestShift());
            hash.add(leastNeededBound());
        }
    }

    private void addPart(Hash hash) {
        if (!now.hasEmptyTune()) {
            parts.find(now);
            hash.add(parts.least);
            hash.add(parts.first);
            hash.add(parts.last);
        }
    }

    private static void addPairs(Hash hash, Matches best) {
        for (int pair = 0; pair < best.length; pair++) {
            hash.add(best.noteOf(0, pair));
            hash.add(best.noteOf(1, pair));
        }
    }

    private void addStretches(Hash hash, Matches best, int tune) {
        hash.add(best.greatestStretch(tune));
        int length = now.tuneOf(tune).length;
        for (int note = 0; note < length; note++) {
            hash.add(best.stretchOf(tune, note));
        }
    }

    private void addCosts(Hash hash, Matches best) {
        for (int first = 0; first < now.zero.length; first++) {
            for (int second = 0; second < now.one.length; second++) {
                hash.add(orNothing(best.leastTo(first, second)));
            }
        }
    }

    private void addStop(Hash hash) {
        boolean stopped = now.stopReason != POSSIBLE;
        hash.addTruth(stopped);
        if (stopped) {
            hash.add(now.stopPart);
            hash.add(now.stopReason);
        }
    }

    private void addBuffer(Hash hash) {
        hash.add(codesLength);
        for (int index = 0; index < codesLength && index < codes.length; index++) {
            hash.add(codes[index]);
        }
    }

    /** The language leaves no Double.doubleToLongBits; this is the same for a share, 0.0 to 1.0. */
    private static long bitsOf(double share) {
        if (share <= 0.0) {
            return 0L;
        }
        double lead = share;
        long exponent = EXPONENT_OF_ONE;
        while (lead < 1.0 && exponent > 1L) {
            lead = lead * 2.0;
            exponent--;
        }
        double fraction = (lead - 1.0) * (double) (1L << FRACTION_BITS);
        return (exponent << FRACTION_BITS) + (long) fraction;
    }

    /** A word with which a part begins, and what stands behind it. No word begins with another one. */
    private enum Word {
        SING("sing", true, true, 0, MOST_PITCH),
        RAISE("raise", true, true, 1, MOST_SHIFT),
        LOWER("lower", true, true, 1, MOST_SHIFT),
        SLOW("slow", true, false, 0, 0),
        FLIP("flip", true, false, 0, 0),
        BOUND("bound", false, true, 0, MOST_BOUND),
        HOLD("hold", false, true, 0, MOST_PRICE),
        JUDGE("judge", false, true, 0, KIND);

        private final String letters;
        private final boolean hasTune;
        private final boolean hasNumber;
        private final int leastNumber;
        private final int mostNumber;

        Word(String letters, boolean hasTune, boolean hasNumber, int leastNumber, int mostNumber) {
            this.letters = letters;
            this.hasTune = hasTune;
            this.hasNumber = hasNumber;
            this.leastNumber = leastNumber;
            this.mostNumber = mostNumber;
        }

        int letterAt(int index) {
            return index >= 0 && index < letters.length() ? (int) letters.charAt(index) : NOTHING;
        }
    }

    /** Reads works as a text, a character at a time. */
    private static final class Reader {
        private static final int IN_WORD = 0;
        private static final int AT_TUNE = 1;
        private static final int AT_COLON = 2;
        private static final int AT_NUMBER = 3;
        private static final int IN_NUMBER = 4;
        private static final int AT_END = 5;

        // Of the characters of a full buffer at most every other one is a number of its own.
        private final int[] numbers = new int[MOST_CODES / 2];
        private int numbersLength = 0;
        private int place = IN_WORD;
        private Word word = Word.SING;
        private int lettersRead = 0;
        private int tune = 0;

        void begin() {
            place = IN_WORD;
            lettersRead = 0;
            numbersLength = 0;
        }

        boolean isComplete() {
            return place == IN_NUMBER || place == AT_END;
        }

        /** Returns false if the character is a syntax error; then there is no reading on. */
        boolean take(int code) {
            switch (place) {
                case IN_WORD:
                    return takeLetter(code);
                case AT_TUNE:
                    return takeTune(code);
                case AT_COLON:
                    place = AT_NUMBER;
                    return code == ':';
                case AT_NUMBER:
                    return takeFirstDigit(code);
                case IN_NUMBER:
                    return takeDigit(code) || takeComma(code) || takeSemicolon(code);
                default:
                    return takeSemicolon(code);
            }
        }

        private boolean takeLetter(int code) {
            for (int index = 0; index < WORDS.length; index++) {
                Word other = WORDS[index];
                if (beginsAsRead(other) && other.letterAt(lettersRead) == code) {
                    word = other;
                    lettersRead++;
                    if (lettersRead >= word.letters.length()) {
                        place = word.hasTune ? AT_TUNE : AT_COLON;
                    }
                    return true;
                }
            }
            return false;
        }

        private boolean beginsAsRead(Word other) {
            for (int index = 0; index < lettersRead; index++) {
                if (other.letterAt(index) != word.letterAt(index)) {
                    return false;
                }
            }
            return true;
        }

        private boolean takeTune(int code) {
            tune = code - '0';
            place = word.hasNumber ? AT_COLON : AT_END;
            return tune >= 0 && tune < TUNES;
        }

        private boolean takeFirstDigit(int code) {
            int digit = code - '0';
            if (digit < 0 || digit > 9 || digit < word.leastNumber || digit > word.mostNumber) {
                return false;
            }
            if (numbersLength < 0 || numbersLength >= numbers.length) {
                return false;
            }
            numbers[numbersLength] = digit;
            numbersLength++;
            place = IN_NUMBER;
            return true;
        }

        private boolean takeDigit(int code) {
            int digit = code - '0';
            int before = lastNumber();
            if (digit < 0 || digit > 9 || before == 0 || before * 10 + digit > word.mostNumber) {
                return false;
            }
            int index = numbersLength - 1;
            if (index < 0 || index >= numbers.length) {
                return false;
            }
            numbers[index] = before * 10 + digit;
            return true;
        }

        private boolean takeComma(int code) {
            if (code != ',' || word != Word.SING) {
                return false;
            }
            place = AT_NUMBER;
            return true;
        }

        private boolean takeSemicolon(int code) {
            if (code != ';') {
                return false;
            }
            begin();
            return true;
        }

        int lastNumber() {
            int index = numbersLength - 1;
            return index < 0 || index >= numbers.length ? 0 : numbers[index];
        }

        /** Returns false, and leaves the tune, if the numbers are too many notes. */
        boolean singTo(Tune sung) {
            if (numbersLength > MOST_NOTES) {
                return false;
            }
            sung.length = 0;
            for (int index = 0; index < numbersLength && index < numbers.length; index++) {
                sung.add(numbers[index]);
            }
            return true;
        }
    }

    /** All that undo and restore bring back. */
    private static final class State {
        private Tune zero = new Tune();
        private Tune one = new Tune();
        private int farthest = MOST_BOUND;
        private int price = 1;
        private int teller = PLAIN;
        private int stopReason = POSSIBLE;
        private int stopPart = 0;

        void copyFrom(State other) {
            zero.copyFrom(other.zero);
            one.copyFrom(other.one);
            farthest = other.farthest;
            price = other.price;
            teller = other.teller;
            stopReason = other.stopReason;
            stopPart = other.stopPart;
        }

        Tune tuneOf(int number) {
            return number == 0 ? zero : one;
        }

        void swapTunes() {
            Tune moved = zero;
            zero = one;
            one = moved;
        }

        int bothLengths() {
            return zero.length + one.length;
        }

        int lengthsApart() {
            return Math.abs(zero.length - one.length);
        }

        boolean hasEmptyTune() {
            return zero.length == 0 || one.length == 0;
        }

        boolean hasMatch() {
            return !hasEmptyTune() && lengthsApart() <= farthest;
        }

        boolean isLastPair(int first, int second) {
            return first == zero.length - 1 && second == one.length - 1;
        }

        int difference(int first, int second) {
            return judged(zero.pitchOf(first) - one.pitchOf(second));
        }

        int judged(int apart) {
            int d = apart < 0 ? -apart : apart;
            if (teller == PLAIN) {
                return d;
            }
            if (teller == STRICT) {
                return d * d;
            }
            if (teller == OF_OCTAVES) {
                int left = d % OCTAVE;
                return left <= OCTAVE - left ? left : OCTAVE - left;
            }
            return d == 0 ? 0 : 1;
        }
    }

    /** The notes of a tune; the class around it refuses what would be too many or out of range. */
    private static final class Tune {
        private final int[] pitches = new int[MOST_NOTES];
        private int length = 0;

        void copyFrom(Tune other) {
            System.arraycopy(other.pitches, 0, pitches, 0, MOST_NOTES);
            length = other.length;
        }

        boolean hasNote(int note) {
            return note >= 0 && note < length;
        }

        int pitchOf(int note) {
            return note < 0 || note >= pitches.length ? 0 : pitches[note];
        }

        void put(int note, int pitch) {
            if (note >= 0 && note < pitches.length) {
                pitches[note] = pitch;
            }
        }

        void add(int pitch) {
            if (length < MOST_NOTES) {
                put(length, pitch);
                length++;
            }
        }

        void takeOut(int dropped) {
            for (int note = dropped; note < length - 1; note++) {
                put(note, pitchOf(note + 1));
            }
            length--;
        }

        boolean canRise(int by) {
            for (int note = 0; note < length; note++) {
                int risen = pitchOf(note) + by;
                if (risen < 0 || risen > MOST_PITCH) {
                    return false;
                }
            }
            return true;
        }

        void rise(int by) {
            for (int note = 0; note < length; note++) {
                put(note, pitchOf(note) + by);
            }
        }

        boolean canDouble() {
            return 2 * length <= MOST_NOTES;
        }

        void doubleNotes() {
            // From behind, so that no note is written over before it is read.
            for (int note = length - 1; note >= 0; note--) {
                int pitch = pitchOf(note);
                put(2 * note, pitch);
                put(2 * note + 1, pitch);
            }
            length = 2 * length;
        }

        void turnRound() {
            for (int note = 0; note < length / 2; note++) {
                int opposite = length - 1 - note;
                int moved = pitchOf(note);
                put(note, pitchOf(opposite));
                put(opposite, moved);
            }
        }

        int countRises() {
            int count = 0;
            for (int note = 1; note < length; note++) {
                if (pitchOf(note) > pitchOf(note - 1)) {
                    count++;
                }
            }
            return count;
        }
    }

    /** A number for each pair of a note of the tune 0 (its row) and one of the tune 1 (its column). */
    private static final class Grid {
        private final int[] cells = new int[MOST_NOTES * MOST_NOTES];

        /** FAR, where there is no cell. */
        int at(int row, int column) {
            int index = row * MOST_NOTES + column;
            boolean isInRow = column >= 0 && column < MOST_NOTES;
            return isInRow && index >= 0 && index < cells.length ? cells[index] : FAR;
        }

        void put(int row, int column, int value) {
            int index = row * MOST_NOTES + column;
            boolean isInRow = column >= 0 && column < MOST_NOTES;
            if (isInRow && index >= 0 && index < cells.length) {
                cells[index] = value;
            }
        }

        void clear() {
            Arrays.fill(cells, FAR);
        }

        /** Each cell: the least cost of a row of pairs from the first notes to its own, if the tune 1 were shifted. */
        void tellFromBegin(State state, int by, int farthest) {
            clear();
            for (int row = 0; row < state.zero.length; row++) {
                tellRowFromBegin(state, row, by, farthest);
            }
        }

        private void tellRowFromBegin(State state, int row, int by, int farthest) {
            int pitch = state.zero.pitchOf(row) - by;
            int first = Math.max(0, row - farthest);
            int last = Math.min(state.one.length - 1, row + farthest);
            int left = FAR;
            int aboveLeft = at(row - 1, first - 1);
            for (int column = first; column <= last; column++) {
                int above = at(row - 1, column);
                int before = Math.min(aboveLeft, Math.min(above, left) + state.price);
                if (row == 0 && column == 0) {
                    before = 0;
                }
                left = Math.min(FAR, before + state.judged(pitch - state.one.pitchOf(column)));
                put(row, column, left);
                aboveLeft = above;
            }
        }

        /** Each cell: the least cost of a row of pairs from its own to the last notes. */
        void tellFromEnd(State state) {
            clear();
            for (int row = state.zero.length - 1; row >= 0; row--) {
                tellRowFromEnd(state, row);
            }
        }

        private void tellRowFromEnd(State state, int row) {
            int first = Math.max(0, row - state.farthest);
            int last = Math.min(state.one.length - 1, row + state.farthest);
            int right = FAR;
            int belowRight = at(row + 1, last + 1);
            for (int column = last; column >= first; column--) {
                int below = at(row + 1, column);
                int behind = Math.min(belowRight, Math.min(below, right) + state.price);
                if (state.isLastPair(row, column)) {
                    behind = 0;
                }
                right = Math.min(FAR, behind + state.difference(row, column));
                put(row, column, right);
                belowRight = below;
            }
        }
    }

    /** The best matches of a state, and the first one of them; no pairs if there is no match. */
    private static final class Matches {
        private final Grid fromBegin = new Grid();
        private final Grid fromEnd = new Grid();
        private final Grid firstSteps = new Grid();
        private final Grid counts = new Grid();
        private final int[] zeroNotes = new int[MOST_PAIRS];
        private final int[] oneNotes = new int[MOST_PAIRS];
        private final int[] zeroStretches = new int[MOST_NOTES];
        private final int[] oneStretches = new int[MOST_NOTES];
        private int length = 0;
        private int held = 0;
        private int number = 0;

        void find(State state) {
            fromBegin.tellFromBegin(state, 0, state.farthest);
            fromEnd.tellFromEnd(state);
            tellSteps(state);
            walkFirst(state);
            number = state.hasMatch() ? counts.at(0, 0) : 0;
        }

        int leastTo(int first, int second) {
            return fromBegin.at(first, second);
        }

        int leastFromBegin(State state) {
            return fromBegin.at(state.zero.length - 1, state.one.length - 1);
        }

        int leastFromEnd() {
            return fromEnd.at(0, 0);
        }

        int noteOf(int tune, int pair) {
            int[] notes = tune == 0 ? zeroNotes : oneNotes;
            return pair < 0 || pair >= notes.length ? 0 : notes[pair];
        }

        int stretchOf(int tune, int note) {
            int[] stretches = tune == 0 ? zeroStretches : oneStretches;
            return note < 0 || note >= stretches.length ? 0 : stretches[note];
        }

        int greatestStretch(int tune) {
            int greatest = 0;
            for (int note = 0; note < MOST_NOTES; note++) {
                greatest = Math.max(greatest, stretchOf(tune, note));
            }
            return greatest;
        }

        double shareOfBoth() {
            return length <= 0 ? 0.0 : (double) (length - held) / (double) length;
        }

        /** For each pair: the first step of a best row of pairs from there to the end, and how many such rows. */
        private void tellSteps(State state) {
            for (int first = state.zero.length - 1; first >= 0; first--) {
                for (int second = state.one.length - 1; second >= 0; second--) {
                    int firstStep = NO_STEP;
                    int count = state.isLastPair(first, second) ? 1 : 0;
                    for (int step = ONLY_ONE; step >= BOTH; step--) {
                        if (isBestStep(state, first, second, step)) {
                            firstStep = step;
                            count += counts.at(firstAfter(first, step), secondAfter(second, step));
                        }
                    }
                    firstSteps.put(first, second, firstStep);
                    counts.put(first, second, Math.min(MOST_COUNTED, count));
                }
            }
        }

        private boolean isBestStep(State state, int first, int second, int step) {
            int behind = fromEnd.at(firstAfter(first, step), secondAfter(second, step));
            int price = step == BOTH ? 0 : state.price;
            return behind < FAR
                    && fromEnd.at(first, second) == state.difference(first, second) + price + behind;
        }

        private static int firstAfter(int first, int step) {
            return step == BOTH || step == ONLY_ZERO ? first + 1 : first;
        }

        private static int secondAfter(int second, int step) {
            return step == BOTH || step == ONLY_ONE ? second + 1 : second;
        }

        private void walkFirst(State state) {
            length = 0;
            held = 0;
            Arrays.fill(zeroStretches, 0);
            Arrays.fill(oneStretches, 0);
            int first = 0;
            int second = 0;
            boolean goesOn = state.hasMatch();
            for (int pair = 0; pair < MOST_PAIRS && goesOn; pair++) {
                addPair(first, second);
                int step = firstSteps.at(first, second);
                goesOn = step != NO_STEP;
                if (step == ONLY_ZERO || step == ONLY_ONE) {
                    held++;
                }
                first = firstAfter(first, step);
                second = secondAfter(second, step);
            }
        }

        private void addPair(int first, int second) {
            if (length >= 0 && length < zeroNotes.length && length < oneNotes.length) {
                zeroNotes[length] = first;
                oneNotes[length] = second;
                length++;
            }
            if (first >= 0 && first < zeroStretches.length) {
                zeroStretches[first]++;
            }
            if (second >= 0 && second < oneStretches.length) {
                oneStretches[second]++;
            }
        }
    }

    /** The best part match of a state that has no empty tune. */
    private static final class Parts {
        private final Grid costs = new Grid();
        private final Grid begins = new Grid();
        private int least = 0;
        private int first = 0;
        private int last = 0;
        private int leastBefore = FAR;
        private int latestBegin = NOTHING;

        void find(State state) {
            for (int row = 0; row < state.zero.length; row++) {
                for (int column = 0; column < state.one.length; column++) {
                    tellCell(state, row, column);
                }
            }
            choose(state.zero.length - 1, state.one.length);
        }

        private void tellCell(State state, int row, int column) {
            leastBefore = FAR;
            latestBegin = NOTHING;
            if (row == 0) {
                consider(0, column);
            }
            consider(costs.at(row - 1, column - 1), begins.at(row - 1, column - 1));
            consider(costs.at(row - 1, column) + state.price, begins.at(row - 1, column));
            consider(costs.at(row, column - 1) + state.price, begins.at(row, column - 1));
            costs.put(row, column, leastBefore + state.difference(row, column));
            begins.put(row, column, latestBegin);
        }

        /** Of rows of pairs with the least cost to the same pair, the one that begins later is as good and better. */
        private void consider(int cost, int begin) {
            if (cost < leastBefore || cost == leastBefore && begin > latestBegin) {
                leastBefore = cost;
                latestBegin = begin;
            }
        }

        private void choose(int row, int columns) {
            least = FAR;
            for (int column = 0; column < columns; column++) {
                if (costs.at(row, column) < least) {
                    least = costs.at(row, column);
                    first = begins.at(row, column);
                    last = column;
                }
            }
        }
    }

    /** The hash that the digest becomes, a value at a time. */
    private static final class Hash {
        private long value = FIRST_HASH;

        void add(long next) {
            value = 31L * value + next;
        }

        void addTruth(boolean next) {
            add(next ? 1L : 0L);
        }
    }
}
