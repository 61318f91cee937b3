import java.io.File;
import java.io.IOException;
import java.lang.reflect.InvocationTargetException;
import java.lang.reflect.Method;
import java.lang.reflect.Modifier;
import java.nio.file.Files;
import java.nio.file.Path;
import java.util.regex.Matcher;
import java.util.regex.Pattern;

/** README.md: what its example says that the calls answer, and that it names every call and every test. */
public final class ReadmeTest {
    private static final Pattern TEXT = Pattern.compile("\"([^\"]+)\"\\.toCharArray\\(\\)");
    private static final Pattern CALL = Pattern.compile("(?m)^tunes\\.(\\w+)\\(([^)]*)\\); +// ([\\w.-]+)");
    private static final Checks CHECKS = new Checks("ReadmeTest");

    public static void main(String[] args) throws IOException, ReflectiveOperationException {
        String readme = Files.readString(Path.of("README.md"));
        example(readme);
        names(readme);
        CHECKS.finish();
    }

    private static void example(String readme) throws ReflectiveOperationException {
        CHECKS.sentence("README.md", "How to use it");
        SlowTunes tunes = new SlowTunes();
        Matcher text = TEXT.matcher(readme);
        CHECKS.same("a text", text.find(), true);
        Checks.write(tunes, text.group(1));
        Matcher call = CALL.matcher(readme);
        int calls = 0;
        while (call.find()) {
            String got = answer(tunes, call.group(1), call.group(2));
            CHECKS.same(call.group() + ", answered " + got, got.equals(call.group(3)), true);
            calls++;
        }
        CHECKS.same("calls that it answers", calls > 0, true);
    }

    private static String answer(SlowTunes tunes, String call, String numbers) throws ReflectiveOperationException {
        String[] words = numbers.isEmpty() ? new String[0] : numbers.split(", ");
        Object[] arguments = new Object[words.length];
        Class<?>[] types = new Class<?>[words.length];
        for (int index = 0; index < words.length; index++) {
            arguments[index] = Integer.valueOf(words[index]);
            types[index] = int.class;
        }
        try {
            return String.valueOf(SlowTunes.class.getMethod(call, types).invoke(tunes, arguments));
        } catch (InvocationTargetException thrown) {
            return thrown.getCause().getClass().getName();
        }
    }

    private static void names(String readme) {
        CHECKS.sentence("README.md", "For, Calls");
        for (Method method : SlowTunes.class.getDeclaredMethods()) {
            if (Modifier.isPublic(method.getModifiers())) {
                isNamed(readme, method.getName());
            }
        }
        CHECKS.sentence("README.md", "Test in src/test/java");
        File[] files = new File("src/test/java").listFiles();
        CHECKS.same("files", files != null && files.length > 0, true);
        for (File file : files) {
            isNamed(readme, file.getName().replace(".java", ""));
        }
    }

    private static void isNamed(String readme, String name) {
        CHECKS.same(name + " is named", readme.contains("`" + name + "`"), true);
    }
}
