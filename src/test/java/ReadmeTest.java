import java.io.IOException;
import java.lang.reflect.InvocationTargetException;
import java.lang.reflect.Method;
import java.lang.reflect.Modifier;
import java.nio.file.Files;
import java.nio.file.Path;
import java.util.Set;
import java.util.TreeSet;
import java.util.regex.Matcher;
import java.util.regex.Pattern;

/** The calls that README.md shows, each with the answer that stands behind it; run from the project's directory. */
public final class ReadmeTest {
    private static final Pattern CALL = Pattern.compile("x\\.(\\w+)\\((.*)\\); +// ([-\\w]+)(: .*)?");

    private final CrashBuckets x = new CrashBuckets();
    private final Set<String> shown = new TreeSet<>();

    private ReadmeTest() {
    }

    public static void main(String[] args) throws IOException {
        ReadmeTest test = new ReadmeTest();
        for (String line : Files.readAllLines(Path.of("README.md"))) {
            if (line.startsWith("x.")) {
                test.oneLine(line);
            }
        }
        test.showsAll();
        Check.end();
    }

    private void oneLine(String line) {
        Matcher parts = CALL.matcher(line);
        if (!parts.matches()) {
            Check.tell("can't be read: " + line);
            return;
        }
        shown.add(parts.group(1));
        String due = parts.group(3);
        Check.dueText(line, due, answerOf(parts.group(1), parts.group(2), due));
    }

    private String answerOf(String name, String given, String due) {
        String[] texts = given.isEmpty() ? new String[0] : given.split(", ");
        Object[] values = new Object[texts.length];
        for (int at = 0; at < texts.length; at++) {
            values[at] = valueOf(texts[at]);
        }
        try {
            Object got = methodOf(name).invoke(x, values);
            return got.equals(valueOf(due)) ? due : got.toString();
        } catch (InvocationTargetException e) {
            return e.getCause().getClass().getSimpleName();
        } catch (IllegalAccessException e) {
            return "no access";
        }
    }

    private static Method methodOf(String name) {
        for (Method method : CrashBuckets.class.getMethods()) {
            if (method.getName().equals(name)) {
                return method;
            }
        }
        throw new IllegalArgumentException("README.md shows a method that there is not: " + name);
    }

    /** An answer that is the name of an exception is no value, and like no answer. */
    private static Object valueOf(String text) {
        return switch (text) {
            case "true" -> true;
            case "false" -> false;
            case "NONE" -> CrashBuckets.NONE;
            case "PASS" -> CrashBuckets.PASS;
            case "SLOW" -> CrashBuckets.SLOW;
            case "HOLD" -> CrashBuckets.HOLD;
            default -> text.endsWith("Exception") ? text : (Object) Integer.valueOf(text);
        };
    }

    private void showsAll() {
        for (Method method : CrashBuckets.class.getDeclaredMethods()) {
            if (Modifier.isPublic(method.getModifiers())) {
                Check.due("README.md shows " + method.getName(), true, shown.contains(method.getName()));
            }
        }
    }
}
