import java.lang.reflect.Constructor;
import java.lang.reflect.Field;
import java.lang.reflect.Member;
import java.lang.reflect.Method;
import java.lang.reflect.Modifier;
import java.util.ArrayList;
import java.util.Arrays;
import java.util.HashSet;
import java.util.List;
import java.util.Set;

/** "The public face": every call with its numbers and its throws clause in order, and no other member to be seen. */
public final class FaceTest {
    private static final String INDEX = "IndexOutOfBoundsException";
    private static final String NUMBER = "IllegalArgumentException";
    private static final String STATE = "IllegalStateException";
    /** What is answered, the call, how many numbers it takes, and what it throws. */
    private static final String[] FACE = {
        "int addNote 2 " + INDEX + " " + NUMBER + " " + STATE,
        "int setNote 3 " + INDEX + " " + NUMBER,
        "int dropNote 2 " + INDEX,
        "int shift 2 " + INDEX + " " + NUMBER + " " + STATE,
        "int slow 1 " + INDEX + " " + STATE,
        "int flip 1 " + INDEX,
        "int exchange 0",
        "int setBound 1 " + NUMBER,
        "int setHold 1 " + NUMBER,
        "int setJudge 1 " + NUMBER,
        "int append 1 " + NUMBER + " " + STATE,
        "int clearBuffer 0",
        "int firstError 0",
        "int work 0 " + NUMBER,
        "boolean hasStopped 0",
        "int stoppedPart 0 " + STATE,
        "int whyStopped 0 " + STATE,
        "int undo 0 " + STATE,
        "int keep 0",
        "int restore 0 " + STATE,
        "int savedStates 0",
        "int notes 1 " + INDEX,
        "int pitch 2 " + INDEX,
        "int bound 0",
        "int hold 0",
        "int judge 0",
        "int unlike 2 " + INDEX,
        "int rises 0",
        "boolean isMatched 0",
        "int cost 0 " + STATE,
        "int costFromEnd 0 " + STATE,
        "int costTo 2 " + INDEX,
        "int pairs 0 " + STATE,
        "int noteOfPair 2 " + INDEX,
        "int stretch 2 " + INDEX,
        "int longestStretch 1 " + INDEX,
        "int holds 0",
        "int bestMatches 0",
        "int partCost 0 " + STATE,
        "int partBegin 0 " + STATE,
        "int partEnd 0 " + STATE,
        "int costWithShift 1 " + NUMBER + " " + STATE,
        "int bestShift 0 " + STATE,
        "int costWithBound 1 " + NUMBER,
        "int neededBound 0",
        "double evenShare 0",
        "long digest 0"};
    private static final Checks CHECKS = new Checks("FaceTest");

    public static void main(String[] args) {
        theClass();
        calls();
        otherMembers();
        CHECKS.finish();
    }

    private static void theClass() {
        CHECKS.sentence("The public face", "public final class SlowTunes");
        CHECKS.same("public", Modifier.isPublic(SlowTunes.class.getModifiers()), true);
        CHECKS.same("final", Modifier.isFinal(SlowTunes.class.getModifiers()), true);
        CHECKS.same("of no package", SlowTunes.class.getPackageName().isEmpty(), true);
        CHECKS.same("of no other class", SlowTunes.class.getSuperclass() == Object.class, true);
        CHECKS.sentence("The public face", "public SlowTunes()");
        Constructor<?>[] constructors = SlowTunes.class.getDeclaredConstructors();
        CHECKS.same("constructors", constructors.length, 1);
        CHECKS.same("public", Modifier.isPublic(constructors[0].getModifiers()), true);
        CHECKS.same("its numbers", constructors[0].getParameterCount(), 0);
        CHECKS.same("its exceptions", constructors[0].getExceptionTypes().length, 0);
    }

    private static boolean isPlain(Method method) {
        boolean allInts = Arrays.stream(method.getParameterTypes()).allMatch(type -> type == int.class);
        return allInts && !Modifier.isStatic(method.getModifiers());
    }

    private static String told(Method method) {
        List<String> words = new ArrayList<>();
        words.add(method.getReturnType().getName());
        words.add(method.getName());
        words.add(String.valueOf(method.getParameterCount()));
        for (Class<?> thrown : method.getExceptionTypes()) {
            words.add(thrown.getSimpleName());
        }
        return String.join(" ", words);
    }

    private static void calls() {
        CHECKS.sentence("The public face", "what each method throws, and which is named first");
        Set<String> seen = new HashSet<>();
        for (Method method : SlowTunes.class.getDeclaredMethods()) {
            if (Modifier.isPublic(method.getModifiers())) {
                seen.add(told(method));
                CHECKS.same(method.getName() + " takes ints", isPlain(method), true);
            }
        }
        for (String due : FACE) {
            CHECKS.same("there is: " + due, seen.remove(due), true);
        }
        CHECKS.same("others: " + seen, seen.size(), 0);
    }

    private static void otherMembers() {
        CHECKS.sentence("LANGUAGE.md, rule 1", "no other public, protected or package-visible member");
        Set<String> names = new HashSet<>();
        for (String call : FACE) {
            names.add(call.split(" ")[1]);
        }
        for (Field field : SlowTunes.class.getDeclaredFields()) {
            isHidden(field);
        }
        for (Method method : SlowTunes.class.getDeclaredMethods()) {
            if (!Modifier.isPublic(method.getModifiers())) {
                isHidden(method);
                CHECKS.same("no private method bears the name " + method.getName(), names.contains(method.getName()), false);
            }
        }
        for (Class<?> inside : SlowTunes.class.getDeclaredClasses()) {
            int marks = inside.getModifiers();
            CHECKS.same(inside.getName(), Modifier.isPublic(marks) || Modifier.isProtected(marks), false);
        }
    }

    private static void isHidden(Member member) {
        CHECKS.same(member.getName() + " is private", member.isSynthetic() || Modifier.isPrivate(member.getModifiers()), true);
    }
}
