import java.lang.reflect.InvocationTargetException;
import java.lang.reflect.Method;
import java.lang.reflect.Modifier;
import java.util.ArrayList;
import java.util.Arrays;
import java.util.Comparator;
import java.util.List;

/** What the tests share: comparing answers, counting those that are wrong, and ending with exit code 1. */
final class Check {
    /** A call whose answer is a number. */
    interface Call {
        long run();
    }

    static final Class<? extends RuntimeException> OUT = IndexOutOfBoundsException.class;
    static final Class<? extends RuntimeException> ARGUMENT = IllegalArgumentException.class;
    static final Class<? extends RuntimeException> STATE = IllegalStateException.class;

    private static final List<String> FAULTS = new ArrayList<>();
    private static String part = "";
    private static int compared = 0;
    private static int cases = 0;

    private Check() {
    }

    /** Runs each test of one case, by their names: each by itself, so that one that breaks off stops no other one. */
    static void eachOf(Class<?> tests) {
        Method[] methods = tests.getDeclaredMethods();
        Arrays.sort(methods, Comparator.comparing(Method::getName));
        for (Method method : methods) {
            if (method.isAnnotationPresent(Says.class)) {
                run(method);
            } else if (looksLikeATest(method)) {
                fault(method.getName() + " does not tell what the document says, and was not run");
            }
        }
    }

    private static boolean looksLikeATest(Method method) {
        int modifiers = method.getModifiers();
        return !method.isSynthetic() && !Modifier.isPrivate(modifiers) && !Modifier.isPublic(modifiers)
            && method.getParameterCount() == 0;
    }

    private static void run(Method test) {
        part(test.getDeclaringClass().getName() + "." + test.getName() + " [" + test.getAnnotation(Says.class).value()
            + "]");
        int before = compared;
        try {
            test.invoke(null);
        } catch (InvocationTargetException thrown) {
            fault("broke off with " + thrown.getCause());
        } catch (IllegalAccessException thrown) {
            fault("cannot be run");
        }
        if (compared == before) {
            fault("compared nothing");
        }
        cases++;
    }

    static void part(String name) {
        part = name;
    }

    static void same(String what, long got, long due) {
        compared++;
        if (got != due) {
            FAULTS.add(part + ": " + what + " answered " + got + ", due is " + due);
        }
    }

    static void same(String what, boolean got, boolean due) {
        same(what, got ? 1 : 0, due ? 1 : 0);
    }

    static void same(String what, String got, String due) {
        compared++;
        if (!got.equals(due)) {
            FAULTS.add(part + ": " + what + " answered " + got + ", due is " + due);
        }
    }

    static void sameDouble(String what, double got, double due) {
        compared++;
        if (got != due) {
            FAULTS.add(part + ": " + what + " answered " + got + ", due is " + due);
        }
    }

    /** The class must be the very one: a subclass is what the machine throws, not what the document names. */
    static void refused(String what, Class<? extends RuntimeException> due, Call call) {
        compared++;
        try {
            long got = call.run();
            FAULTS.add(part + ": " + what + " answered " + got + ", due is " + due.getName());
        } catch (RuntimeException thrown) {
            if (thrown.getClass() != due) {
                FAULTS.add(part + ": " + what + " threw " + thrown.getClass().getName() + ", due is " + due.getName());
            }
        }
    }

    static void fault(String text) {
        FAULTS.add(part + ": " + text);
    }

    static boolean isClean() {
        return FAULTS.isEmpty();
    }

    static void end() {
        for (String fault : FAULTS) {
            System.out.println(fault);
        }
        String tests = cases > 0 ? cases + " cases, " : "";
        System.out.println(tests + compared + " answers compared, " + FAULTS.size() + " wrong");
        if (!FAULTS.isEmpty()) {
            System.exit(1);
        }
    }
}
