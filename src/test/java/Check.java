import java.lang.reflect.InvocationTargetException;
import java.lang.reflect.Method;
import java.util.ArrayList;
import java.util.Comparator;
import java.util.List;

/** What the tests share: runs them, compares answers, prints the wrong ones, ends with exit code 1 if there was one. */
final class Check {
    interface Call {
        void run();
    }

    private static int wrong = 0;
    private static int compared = 0;
    private static String heading = "";

    private Check() {
    }

    /** Finds the tests by their mark, so that none is left out by mistake. */
    static void runAll(Class<?> tests) {
        List<Method> marked = new ArrayList<>();
        for (Method method : tests.getDeclaredMethods()) {
            if (method.isAnnotationPresent(Promise.class)) {
                marked.add(method);
            }
        }
        marked.sort(Comparator.comparingInt((Method method) -> method.getAnnotation(Promise.class).number())
                .thenComparing(Method::getName));
        for (Method method : marked) {
            runOne(method);
        }
        heading = "";
        System.out.println(marked.size() + " tests");
        end();
    }

    private static void runOne(Method method) {
        Promise promise = method.getAnnotation(Promise.class);
        heading = "Promise " + promise.number() + " (" + promise.says() + ") " + method.getName() + ": ";
        int before = compared;
        try {
            method.invoke(null);
        } catch (InvocationTargetException e) {
            tell("ended with " + e.getCause());
        } catch (IllegalAccessException e) {
            tell("could not be run");
        }
        if (compared == before) {
            tell("compared nothing");
        }
    }

    static void due(String what, long want, long got) {
        compared++;
        if (want != got) {
            tell(what + " answered " + got + ", due is " + want);
        }
    }

    static void due(String what, boolean want, boolean got) {
        compared++;
        if (want != got) {
            tell(what + " answered " + got + ", due is " + want);
        }
    }

    static void dueText(String what, String want, String got) {
        compared++;
        if (!want.equals(got)) {
            tell(what + " is " + got + ", due is " + want);
        }
    }

    /** The class itself must be thrown, as one below it would be the machine's own. */
    static void dueThrow(String what, Class<? extends RuntimeException> want, Call call) {
        compared++;
        Class<?> got = null;
        try {
            call.run();
        } catch (RuntimeException e) {
            got = e.getClass();
        }
        if (got != want) {
            tell(what + " threw " + (got == null ? "nothing" : got.getName()) + ", due is " + want.getName());
        }
    }

    static void dueArgument(String what, Call call) {
        dueThrow(what, IllegalArgumentException.class, call);
    }

    static void dueState(String what, Call call) {
        dueThrow(what, IllegalStateException.class, call);
    }

    static void dueIndex(String what, Call call) {
        dueThrow(what, IndexOutOfBoundsException.class, call);
    }

    /** The numbers next to a span on either side, and the machine's least and greatest. */
    static int[] outside(int least, int greatest) {
        return new int[] {least - 1, greatest + 1, Integer.MIN_VALUE, Integer.MAX_VALUE};
    }

    static void tell(String what) {
        wrong++;
        if (wrong <= 50) {
            System.out.println(heading + what);
        }
    }

    static void end() {
        System.out.println(compared + " answers compared, " + wrong + " wrong");
        if (wrong != 0 || compared == 0) {
            System.exit(1);
        }
    }
}
