import java.lang.reflect.InvocationTargetException;
import java.lang.reflect.Method;
import java.util.HashMap;
import java.util.Map;

/** All promises: long runs of calls, good and wrong ones, of the program and of the model, answer by answer. */
public final class RunsTest {
    private static final int RUNS = 120;
    private static final int CALLS = 500;
    /** What the arguments are: t a tune, n a note, p a pitch, b a shift, d a bound, h a price, j a judge, c a code, i a pair. */
    private static final String[] FACE = {
        "addNote tp", "addNote tp", "addNote tp", "addNote tp", "setNote tnp", "setNote tnp", "dropNote tn", "shift tb",
        "slow t", "flip t", "exchange ", "setBound d", "setHold h", "setJudge j", "append c", "clearBuffer ",
        "firstError ", "work ", "work ", "hasStopped ", "stoppedPart ", "whyStopped ", "undo ", "keep ", "restore ",
        "savedStates ", "notes t", "pitch tn", "bound ", "hold ", "judge ", "unlike nn", "rises ", "isMatched ",
        "cost ", "costFromEnd ", "costTo nn", "pairs ", "noteOfPair ti", "stretch tn", "longestStretch t", "holds ",
        "bestMatches ", "partCost ", "partBegin ", "partEnd ", "costWithShift b", "bestShift ", "costWithBound d",
        "neededBound ", "evenShare ", "digest "};
    private static final String[] PARTS = {
        "sing0:1,2,3", "sing1:3,2,1,1", "sing0:60", "sing1:0,0,7,7,12", "raise0:12", "raise1:5", "lower0:3", "lower1:12",
        "slow0", "slow1", "flip0", "flip1", "bound:2", "bound:20", "hold:0", "hold:3", "judge:1", "judge:2", "judge:3"};
    private static final Checks CHECKS = new Checks("RunsTest");
    private static final Map<String, Method> PROGRAM = methodsOf(SlowTunes.class);
    private static final Map<String, Method> MODEL = methodsOf(Model.class);
    private static long seed = 20240607L;

    public static void main(String[] args) throws IllegalAccessException {
        for (int run = 0; run < RUNS; run++) {
            oneRun(run);
        }
        CHECKS.finish();
    }

    private static Map<String, Method> methodsOf(Class<?> type) {
        Map<String, Method> methods = new HashMap<>();
        for (Method method : type.getDeclaredMethods()) {
            if (java.lang.reflect.Modifier.isPublic(method.getModifiers())) {
                methods.put(method.getName(), method);
            }
        }
        return methods;
    }

    /** The same numbers each time: a congruence, no random source. */
    private static int next(int below) {
        seed = seed * 6364136223846793005L + 1442695040888963407L;
        return (int) ((seed >>> 33) % below);
    }

    private static void oneRun(int run) throws IllegalAccessException {
        SlowTunes tunes = new SlowTunes();
        Model model = new Model();
        int mostPitch = run % 3 == 0 ? 60 : 2 + run % 7;
        int calls = 0;
        for (int notes = run % 4 == 1 ? 2 * (run % 21) : 0; calls < notes; calls++) {
            same(run, tunes, model, "addNote", calls % 2, next(mostPitch + 1));
        }
        while (calls < CALLS) {
            if (next(12) == 0) {
                String text = someText();
                for (int index = 0; index < text.length() && calls < CALLS; index++) {
                    same(run, tunes, model, "append", text.charAt(index));
                    calls++;
                }
            }
            String[] words = FACE[next(FACE.length)].split(" ");
            Object[] arguments = new Object[words.length < 2 ? 0 : words[1].length()];
            for (int index = 0; index < arguments.length; index++) {
                arguments[index] = argument(words[1].charAt(index), mostPitch);
            }
            same(run, tunes, model, words[0], arguments);
            calls++;
        }
        same(run, tunes, model, "digest");
    }

    private static String someText() {
        StringBuilder text = new StringBuilder(PARTS[next(PARTS.length)]);
        for (int more = next(4); more > 0; more--) {
            text.append(';').append(PARTS[next(PARTS.length)]);
        }
        return text.toString();
    }

    private static int argument(char kind, int mostPitch) {
        if (next(25) == 0) {
            return next(2) == 0 ? Integer.MIN_VALUE : Integer.MAX_VALUE;
        }
        switch (kind) {
            case 't':
                return next(20) == 0 ? next(5) - 2 : next(2);
            case 'n':
                return next(6) == 0 ? next(24) - 2 : next(7);
            case 'p':
                return next(20) == 0 ? next(65) - 2 : next(mostPitch + 1);
            case 'b':
                return next(3) == 0 ? next(29) - 14 : next(7) - 3;
            case 'd':
                return next(2) == 0 ? next(24) - 2 : next(6);
            case 'h':
                return next(3) == 0 ? next(54) - 2 : next(3);
            case 'j':
                return next(6) - 1;
            case 'c':
                return next(98) + 31;
            default:
                return next(42) - 1;
        }
    }

    private static void same(int run, SlowTunes tunes, Model model, String call, Object... arguments)
            throws IllegalAccessException {
        String got = answer(PROGRAM.get(call), tunes, arguments);
        String due = answer(MODEL.get(call), model, arguments);
        if (!got.equals(due)) {
            System.out.println("run " + run + ": " + call + java.util.Arrays.toString(arguments)
                    + " answered " + got + ", due is " + due);
        }
        CHECKS.same("run " + run + ", " + call, got.equals(due), true);
    }

    private static String answer(Method method, Object object, Object[] arguments) throws IllegalAccessException {
        try {
            return String.valueOf(method.invoke(object, arguments));
        } catch (InvocationTargetException thrown) {
            return "throws." + thrown.getCause().getClass().getSimpleName();
        }
    }
}
