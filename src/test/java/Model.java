import java.util.ArrayDeque;
import java.util.ArrayList;
import java.util.Collections;
import java.util.Deque;
import java.util.HashMap;
import java.util.List;
import java.util.Map;
import java.util.regex.Matcher;
import java.util.regex.Pattern;

/**
 * The document told again with the whole Java library and in other ways than the program's, to hold the program
 * against. Its public methods are the calls of the face.
 */
public final class Model {
    private static final String PITCH = "(?:[1-5][0-9]|60|[0-9])";
    private static final String PART = "(?:sing[01]:" + PITCH + "(?:," + PITCH + ")*"
            + "|(?:raise|lower)[01]:(?:1[0-2]|[1-9])|(?:slow|flip)[01]"
            + "|bound:(?:1[0-9]|20|[0-9])|hold:(?:[1-4][0-9]|50|[0-9])|judge:[0-3])";
    private static final Pattern WORKS = Pattern.compile(PART + "(?:;" + PART + ")*");
    private static final int SAVED = 6;
    private static final int NO_BOUND = 100;

    /** All that undo brings back; nothing in it is ever changed. */
    private record State(List<Integer> zero, List<Integer> one, int bound, int hold, int judge, int part, int why) {
        List<Integer> tune(int number) {
            return number == 0 ? zero : one;
        }

        State withTune(int number, List<Integer> notes) {
            List<Integer> frozen = List.copyOf(notes);
            return number == 0
                    ? new State(frozen, one, bound, hold, judge, part, why)
                    : new State(zero, frozen, bound, hold, judge, part, why);
        }

        State withSettings(int newBound, int newHold, int newJudge) {
            return new State(zero, one, newBound, newHold, newJudge, part, why);
        }

        State withStop(int newPart, int newWhy) {
            return new State(zero, one, bound, hold, judge, newPart, newWhy);
        }

        boolean hasEmpty() {
            return zero.isEmpty() || one.isEmpty();
        }

        int pairUnlike(int first, int second, int by) {
            int d = Math.abs(zero.get(first) - (one.get(second) + by));
            int[] told = {d, d * d, Math.abs(d - 12 * Math.round(d / 12.0f)), Math.min(d, 1)};
            return told[judge];
        }
    }

    private State now = new State(List.of(), List.of(), 20, 1, 0, 0, 0);
    private State kept = null;
    private final Deque<State> saved = new ArrayDeque<>();
    private final StringBuilder buffer = new StringBuilder();

    private static void index(boolean holds) {
        if (!holds) {
            throw new IndexOutOfBoundsException();
        }
    }

    private static void number(int value, int least, int most) {
        if (value < least || value > most) {
            throw new IllegalArgumentException();
        }
    }

    private static void state(boolean holds) {
        if (!holds) {
            throw new IllegalStateException();
        }
    }

    private List<Integer> tune(int tune) {
        index(tune == 0 || tune == 1);
        return now.tune(tune);
    }

    private void tuneAndNote(int tune, int note) {
        index(note >= 0 && note < tune(tune).size());
    }

    private void change(State next) {
        saved.addLast(now);
        if (saved.size() > SAVED) {
            saved.removeFirst();
        }
        now = next;
    }

    // ---- tunes

    public int addNote(int tune, int pitch) {
        List<Integer> notes = new ArrayList<>(tune(tune));
        number(pitch, 0, 60);
        state(notes.size() < 20);
        notes.add(pitch);
        change(now.withTune(tune, notes));
        return notes.size();
    }

    public int setNote(int tune, int note, int pitch) {
        tuneAndNote(tune, note);
        number(pitch, 0, 60);
        List<Integer> notes = new ArrayList<>(tune(tune));
        int before = notes.set(note, pitch);
        change(now.withTune(tune, notes));
        return before;
    }

    public int dropNote(int tune, int note) {
        tuneAndNote(tune, note);
        List<Integer> notes = new ArrayList<>(tune(tune));
        int dropped = notes.remove(note);
        change(now.withTune(tune, notes));
        return dropped;
    }

    public int shift(int tune, int by) {
        tune(tune);
        number(by, -12, 12);
        State next = raised(now, tune, by);
        state(next != null);
        change(next);
        return next.tune(tune).size();
    }

    private static State raised(State from, int tune, int by) {
        List<Integer> notes = from.tune(tune).stream().map(pitch -> pitch + by).toList();
        return notes.stream().allMatch(pitch -> pitch >= 0 && pitch <= 60) ? from.withTune(tune, notes) : null;
    }

    public int slow(int tune) {
        tune(tune);
        State next = slowed(now, tune);
        state(next != null);
        change(next);
        return next.tune(tune).size();
    }

    private static State slowed(State from, int tune) {
        List<Integer> notes = from.tune(tune).stream().flatMap(pitch -> List.of(pitch, pitch).stream()).toList();
        return notes.size() <= 20 ? from.withTune(tune, notes) : null;
    }

    public int flip(int tune) {
        tune(tune);
        change(flipped(now, tune));
        return tune(tune).size();
    }

    private static State flipped(State from, int tune) {
        List<Integer> notes = new ArrayList<>(from.tune(tune));
        Collections.reverse(notes);
        return from.withTune(tune, notes);
    }

    public int exchange() {
        change(now.withTune(0, now.one()).withTune(1, now.zero()));
        return now.zero().size();
    }

    // ---- settings

    public int setBound(int notes) {
        number(notes, 0, 20);
        int before = now.bound();
        change(now.withSettings(notes, now.hold(), now.judge()));
        return before;
    }

    public int setHold(int price) {
        number(price, 0, 50);
        int before = now.hold();
        change(now.withSettings(now.bound(), price, now.judge()));
        return before;
    }

    public int setJudge(int judge) {
        number(judge, 0, 3);
        int before = now.judge();
        change(now.withSettings(now.bound(), now.hold(), judge));
        return before;
    }

    // ---- texts

    public int append(int code) {
        number(code, 33, 126);
        state(buffer.length() < 60);
        buffer.append((char) code);
        return buffer.length();
    }

    public int clearBuffer() {
        int before = buffer.length();
        buffer.setLength(0);
        return before;
    }

    public int firstError() {
        return firstError(buffer.toString());
    }

    static boolean isComplete(String text) {
        return WORKS.matcher(text).matches();
    }

    static int firstError(String text) {
        for (int length = 1; length <= text.length(); length++) {
            Matcher matcher = WORKS.matcher(text.substring(0, length));
            // With hitEnd a longer text might match, so the characters so far are no error.
            if (!matcher.matches() && !matcher.hitEnd()) {
                return length - 1;
            }
        }
        return text.length();
    }

    public int work() {
        String text = buffer.toString();
        if (!isComplete(text)) {
            throw new IllegalArgumentException();
        }
        buffer.setLength(0);
        State reached = now.withStop(0, 0);
        String[] parts = text.split(";");
        int done = 0;
        int why = 0;
        while (done < parts.length && why == 0) {
            String part = parts[done];
            State next = afterPart(reached, part);
            if (next == null) {
                why = part.startsWith("raise") || part.startsWith("lower") ? 2 : 1;
                reached = reached.withStop(done, why);
            } else {
                reached = next;
                done++;
            }
        }
        change(reached);
        return done;
    }

    private static State afterPart(State from, String part) {
        String[] sides = part.split(":");
        if (sides[0].matches("bound|hold|judge")) {
            int value = Integer.parseInt(sides[1]);
            return from.withSettings(sides[0].equals("bound") ? value : from.bound(),
                    sides[0].equals("hold") ? value : from.hold(),
                    sides[0].equals("judge") ? value : from.judge());
        }
        int tune = sides[0].charAt(sides[0].length() - 1) - '0';
        switch (sides[0].substring(0, sides[0].length() - 1)) {
            case "sing":
                List<Integer> notes = new ArrayList<>();
                for (String pitch : sides[1].split(",")) {
                    notes.add(Integer.parseInt(pitch));
                }
                return notes.size() <= 20 ? from.withTune(tune, notes) : null;
            case "raise":
                return raised(from, tune, Integer.parseInt(sides[1]));
            case "lower":
                return raised(from, tune, -Integer.parseInt(sides[1]));
            case "slow":
                return slowed(from, tune);
            default:
                return flipped(from, tune);
        }
    }

    public boolean hasStopped() {
        return now.why() != 0;
    }

    public int stoppedPart() {
        state(hasStopped());
        return now.part();
    }

    public int whyStopped() {
        state(hasStopped());
        return now.why();
    }

    // ---- undo, the snapshot

    public int undo() {
        state(!saved.isEmpty());
        now = saved.removeLast();
        return saved.size();
    }

    public int keep() {
        kept = now;
        return now.zero().size() + now.one().size();
    }

    public int restore() {
        state(kept != null);
        change(kept);
        return now.zero().size() + now.one().size();
    }

    public int savedStates() {
        return saved.size();
    }

    // ---- looks

    public int notes(int tune) {
        return tune(tune).size();
    }

    public int pitch(int tune, int note) {
        tuneAndNote(tune, note);
        return tune(tune).get(note);
    }

    public int bound() {
        return now.bound();
    }

    public int hold() {
        return now.hold();
    }

    public int judge() {
        return now.judge();
    }

    public int unlike(int first, int second) {
        tuneAndNote(0, first);
        tuneAndNote(1, second);
        return now.pairUnlike(first, second, 0);
    }

    public int rises() {
        int count = 0;
        for (List<Integer> notes : List.of(now.zero(), now.one())) {
            for (int note = 0; note + 1 < notes.size(); note++) {
                count += notes.get(note) < notes.get(note + 1) ? 1 : 0;
            }
        }
        return count;
    }

    // ---- the best match

    /** What is best among the rows of pairs from a pair to the last one; null, if there is none. */
    private record Best(int cost, long count, int pairs, int farthest, int step) {
    }

    private static final int[][] STEPS = {{1, 1}, {1, 0}, {0, 1}};

    /** The best rows of a table of how unlike the notes are: one entry a pair that has any. */
    private static Map<Integer, Best> best(int[][] unlike, int hold, int bound) {
        Map<Integer, Best> told = new HashMap<>();
        int lastRow = unlike.length - 1;
        int lastColumn = unlike[0].length - 1;
        for (int row = lastRow; row >= 0; row--) {
            for (int column = lastColumn; column >= 0; column--) {
                if (Math.abs(row - column) > bound) {
                    continue;
                }
                Best found = row == lastRow && column == lastColumn ? new Best(0, 1, 0, 0, -1) : null;
                for (int step = 0; step < STEPS.length; step++) {
                    Best behind = told.get(100 * (row + STEPS[step][0]) + column + STEPS[step][1]);
                    found = better(found, behind, step, step == 0 ? 0 : hold);
                }
                if (found != null) {
                    told.put(100 * row + column, new Best(found.cost + unlike[row][column], found.count,
                            found.pairs + 1, Math.max(found.farthest, Math.abs(row - column)), found.step));
                }
            }
        }
        return told;
    }

    private static Best better(Best one, Best behind, int step, int price) {
        if (behind == null) {
            return one;
        }
        int cost = behind.cost + price;
        if (one == null || cost < one.cost) {
            return new Best(cost, behind.count, behind.pairs, behind.farthest, step);
        }
        if (cost > one.cost) {
            return one;
        }
        return new Best(cost, one.count + behind.count, one.pairs, Math.min(one.farthest, behind.farthest), one.step);
    }

    private int[][] table(int firstRows, int from, int to, int by) {
        int[][] unlike = new int[firstRows][to - from];
        for (int row = 0; row < firstRows; row++) {
            for (int column = from; column < to; column++) {
                unlike[row][column - from] = now.pairUnlike(row, column, by);
            }
        }
        return unlike;
    }

    private Map<Integer, Best> bestOf(int by, int bound) {
        return now.hasEmpty() ? Map.of() : best(table(notes(0), 0, notes(1), by), now.hold(), bound);
    }

    private Best first(int by, int bound) {
        return bestOf(by, bound).get(0);
    }

    public boolean isMatched() {
        return first(0, now.bound()) != null;
    }

    public int cost() {
        Best best = first(0, now.bound());
        state(best != null);
        return best.cost;
    }

    public int costFromEnd() {
        return cost();
    }

    public int costTo(int first, int second) {
        tuneAndNote(0, first);
        tuneAndNote(1, second);
        Best best = best(table(first + 1, 0, second + 1, 0), now.hold(), now.bound()).get(0);
        return best == null ? -1 : best.cost;
    }

    private List<int[]> walk() {
        List<int[]> pairs = new ArrayList<>();
        Map<Integer, Best> told = bestOf(0, now.bound());
        int row = 0;
        int column = 0;
        Best best = told.get(0);
        while (best != null) {
            pairs.add(new int[] {row, column});
            int step = best.step;
            row += step < 0 ? 100 : STEPS[step][0];
            column += step < 0 ? 100 : STEPS[step][1];
            best = told.get(100 * row + column);
        }
        return pairs;
    }

    public int pairs() {
        state(isMatched());
        return walk().size();
    }

    public int noteOfPair(int tune, int pair) {
        tune(tune);
        List<int[]> pairs = walk();
        index(pair >= 0 && pair < pairs.size());
        return pairs.get(pair)[tune];
    }

    public int stretch(int tune, int note) {
        tuneAndNote(tune, note);
        return (int) walk().stream().filter(pair -> pair[tune] == note).count();
    }

    public int longestStretch(int tune) {
        int longest = 0;
        for (int note = 0; note < tune(tune).size(); note++) {
            longest = Math.max(longest, stretch(tune, note));
        }
        return longest;
    }

    public int holds() {
        List<int[]> pairs = walk();
        int count = 0;
        for (int pair = 1; pair < pairs.size(); pair++) {
            int[] before = pairs.get(pair - 1);
            int[] behind = pairs.get(pair);
            count += behind[0] + behind[1] - before[0] - before[1] == 1 ? 1 : 0;
        }
        return count;
    }

    public int bestMatches() {
        Best best = first(0, now.bound());
        return best == null ? 0 : (int) Math.min(1000000L, best.count);
    }

    // ---- parts

    /** Its cost, its begin and its end: every part of the tune 1 is looked at by itself. */
    private int[] part() {
        state(!now.hasEmpty());
        int[] best = null;
        for (int end = 0; end < notes(1); end++) {
            for (int begin = end; begin >= 0; begin--) {
                int cost = best(table(notes(0), begin, end + 1, 0), now.hold(), NO_BOUND).get(0).cost;
                if (best == null || cost < best[0]) {
                    best = new int[] {cost, begin, end};
                }
            }
        }
        return best;
    }

    public int partCost() {
        return part()[0];
    }

    public int partBegin() {
        return part()[1];
    }

    public int partEnd() {
        return part()[2];
    }

    // ---- what would be

    public int costWithShift(int by) {
        number(by, -12, 12);
        Best best = first(by, now.bound());
        state(best != null);
        return best.cost;
    }

    public int bestShift() {
        state(isMatched());
        int best = 0;
        for (int by = -12; by <= 12; by++) {
            int less = costWithShift(by) - costWithShift(best);
            boolean isNearer = Math.abs(by) < Math.abs(best) || by == -best && by > 0;
            best = less < 0 || less == 0 && isNearer ? by : best;
        }
        return best;
    }

    public int costWithBound(int notes) {
        number(notes, 0, 20);
        Best best = first(0, notes);
        return best == null ? -1 : best.cost;
    }

    public int neededBound() {
        return now.hasEmpty() ? -1 : first(0, NO_BOUND).farthest;
    }

    public double evenShare() {
        return isMatched() ? (double) (pairs() - holds()) / pairs() : 0.0;
    }

    public long digest() {
        List<Long> values = new ArrayList<>();
        for (int tune = 0; tune < 2; tune++) {
            values.add((long) notes(tune));
            tune(tune).forEach(pitch -> values.add((long) pitch));
        }
        addAll(values, bound(), hold(), judge(), rises(), isMatched() ? 1 : 0);
        if (isMatched()) {
            addAll(values, cost(), costFromEnd(), pairs(), holds(), bestMatches(), bestShift(), neededBound());
        }
        if (!now.hasEmpty()) {
            int[] part = part();
            addAll(values, part[0], part[1], part[2]);
        }
        addAll(values, savedStates());
        for (int[] pair : walk()) {
            addAll(values, pair[0], pair[1]);
        }
        for (int tune = 0; tune < 2; tune++) {
            addAll(values, longestStretch(tune));
            for (int note = 0; note < notes(tune); note++) {
                addAll(values, stretch(tune, note));
            }
        }
        for (int first = 0; first < notes(0); first++) {
            for (int second = 0; second < notes(1); second++) {
                addAll(values, costTo(first, second));
            }
        }
        addAll(values, hasStopped() ? 1 : 0);
        if (hasStopped()) {
            addAll(values, stoppedPart(), whyStopped());
        }
        values.add(Double.doubleToLongBits(evenShare()));
        addAll(values, buffer.length());
        buffer.chars().forEach(code -> values.add((long) code));
        return hashOf(values);
    }

    private static void addAll(List<Long> values, int... next) {
        for (int value : next) {
            values.add((long) value);
        }
    }

    static long hashOf(List<Long> values) {
        long hash = 4547;
        for (long value : values) {
            hash = 31 * hash + value;
        }
        return hash;
    }
}
