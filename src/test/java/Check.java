import java.util.ArrayList;
import java.util.List;

/** What the tests share: comparing answers, counting those that are wrong, and ending with exit code 1. */
final class Check {
    /** A call whose answer is a number. */
    interface Call {
        long run();
    }

    static final Class<? extends RuntimeException> OUT = IndexOutOfBoundsException.class;
    static final Class<? extends RuntimeException> ARGUMENT = IllegalArgumentException.class;
    static final Class<? extends RuntimeException> STATE = IllegalStateException.class;

    private static final List<String> FAULTS = new ArrayList<>();
    private static String part = "";
    private static int compared = 0;

    private Check() {
    }

    static void part(String name) {
        part = name;
    }

    static void same(String what, long got, long due) {
        compared++;
        if (got != due) {
            FAULTS.add(part + ": " + what + " answered " + got + ", due is " + due);
        }
    }

    static void same(String what, boolean got, boolean due) {
        same(what, got ? 1 : 0, due ? 1 : 0);
    }

    static void sameDouble(String what, double got, double due) {
        compared++;
        if (got != due) {
            FAULTS.add(part + ": " + what + " answered " + got + ", due is " + due);
        }
    }

    /** The class must be the very one: a subclass is what the machine throws, not what the document names. */
    static void refused(String what, Class<? extends RuntimeException> due, Call call) {
        compared++;
        try {
            long got = call.run();
            FAULTS.add(part + ": " + what + " answered " + got + ", due is " + due.getName());
        } catch (RuntimeException thrown) {
            if (thrown.getClass() != due) {
                FAULTS.add(part + ": " + what + " threw " + thrown.getClass().getName() + ", due is " + due.getName());
            }
        }
    }

    static void fault(String text) {
        FAULTS.add(part + ": " + text);
    }

    static boolean isClean() {
        return FAULTS.isEmpty();
    }

    static void end() {
        for (String fault : FAULTS) {
            System.out.println(fault);
        }
        System.out.println(compared + " answers compared, " + FAULTS.size() + " wrong");
        if (!FAULTS.isEmpty()) {
            System.exit(1);
        }
    }
}
