import java.lang.reflect.Constructor;
import java.lang.reflect.Field;
import java.lang.reflect.Method;
import java.lang.reflect.Modifier;
import java.util.Arrays;
import java.util.Set;
import java.util.TreeSet;

/** The face of the document and nothing beyond it: constants, constructor, methods, what they declare. */
public final class FaceTest {
    private static final String[] FACE = {
        "int addRange(int, int, int, int) [IllegalArgumentException, IllegalStateException]",
        "boolean ignore(int, boolean) [IllegalArgumentException]",
        "int standFor(int, int) [IllegalArgumentException, IllegalStateException]",
        "int setDepth(int) [IllegalArgumentException]",
        "int report(int, int, int, int, int, int) [IllegalArgumentException, IllegalStateException]",
        "int reports() []",
        "int frame(int, int) [IndexOutOfBoundsException, IllegalArgumentException]",
        "int matters(int, int) [IndexOutOfBoundsException, IllegalArgumentException]",
        "int bucket(int) [IndexOutOfBoundsException]",
        "int buckets() []",
        "int size(int) [IndexOutOfBoundsException]",
        "int setSessions(int, int) [IllegalArgumentException]",
        "int setLimit(int) [IllegalArgumentException]",
        "int rate(int, int) [IndexOutOfBoundsException, IllegalArgumentException]",
        "int users(int, int) [IndexOutOfBoundsException, IllegalArgumentException]",
        "int gate(int) [IllegalArgumentException]",
        "int worst(int) [IllegalArgumentException]",
        "int fix(int, int) [IndexOutOfBoundsException, IllegalArgumentException]",
        "boolean holds(int) [IndexOutOfBoundsException, IllegalStateException]",
    };

    public static void main(String[] args) {
        constants();
        methods();
        members();
        insideClasses();
        Check.end();
    }

    private static void constants() {
        Check.due("NONE", -1, CrashBuckets.NONE);
        Check.due("PASS", 0, CrashBuckets.PASS);
        Check.due("SLOW", 1, CrashBuckets.SLOW);
        Check.due("HOLD", 2, CrashBuckets.HOLD);
        Set<String> names = new TreeSet<>();
        for (Field field : CrashBuckets.class.getFields()) {
            names.add(Modifier.toString(field.getModifiers()) + " " + field.getType() + " " + field.getName());
        }
        String head = "public static final int ";
        Check.due("constants " + names, true,
                names.equals(Set.of(head + "NONE", head + "PASS", head + "SLOW", head + "HOLD")));
    }

    private static String tellFace(Method method) {
        StringBuilder text = new StringBuilder();
        text.append(method.getReturnType()).append(' ').append(method.getName()).append('(');
        String comma = "";
        for (Class<?> type : method.getParameterTypes()) {
            text.append(comma).append(type);
            comma = ", ";
        }
        text.append(") ");
        text.append(Arrays.stream(method.getExceptionTypes()).map(Class::getSimpleName).toList());
        return text.toString();
    }

    private static void methods() {
        Set<String> got = new TreeSet<>();
        for (Method method : CrashBuckets.class.getDeclaredMethods()) {
            if (Modifier.isPublic(method.getModifiers())) {
                got.add(tellFace(method));
                Check.due(method + " is plain", Modifier.PUBLIC, method.getModifiers());
            }
        }
        Set<String> want = new TreeSet<>(Arrays.asList(FACE));
        for (String face : want) {
            Check.due("has " + face, true, got.contains(face));
        }
        Check.due("nothing else in " + got, want.size(), got.size());
        Constructor<?>[] constructors = CrashBuckets.class.getConstructors();
        Check.due("one constructor", 1, constructors.length);
        Check.due("without parameters", 0, constructors[0].getParameterCount());
    }

    private static void members() {
        Check.due("the class is public and final", Modifier.PUBLIC | Modifier.FINAL,
                CrashBuckets.class.getModifiers());
        Check.due("all constructors are public", 1, CrashBuckets.class.getDeclaredConstructors().length);
        for (Method method : CrashBuckets.class.getDeclaredMethods()) {
            int is = method.getModifiers();
            Check.due(method + " is public or private", true, Modifier.isPublic(is) || Modifier.isPrivate(is));
        }
        for (Field field : CrashBuckets.class.getDeclaredFields()) {
            int is = field.getModifiers();
            Check.due(field + " is public or private", true, Modifier.isPublic(is) || Modifier.isPrivate(is));
            Check.due(field + " is final if static", true, !Modifier.isStatic(is) || Modifier.isFinal(is));
        }
    }

    private static void insideClasses() {
        Set<String> face = new TreeSet<>();
        for (Method method : CrashBuckets.class.getMethods()) {
            face.add(method.getName());
        }
        for (Class<?> inside : CrashBuckets.class.getDeclaredClasses()) {
            int is = inside.getModifiers();
            Check.due(inside + " is not public", false, Modifier.isPublic(is) || Modifier.isProtected(is));
            Check.due(inside + " is static", true, Modifier.isStatic(is));
            for (Method method : inside.getDeclaredMethods()) {
                Check.due(method + " bears no name of the face", false, face.contains(method.getName()));
            }
        }
        for (Method method : CrashBuckets.class.getDeclaredMethods()) {
            boolean isHidden = !Modifier.isPublic(method.getModifiers());
            Check.due(method + " bears no name of the face", false, isHidden && face.contains(method.getName()));
        }
    }
}
