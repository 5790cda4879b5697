import java.io.IOException;
import java.lang.reflect.InvocationTargetException;
import java.lang.reflect.Method;
import java.lang.reflect.Modifier;
import java.nio.file.Files;
import java.nio.file.Path;
import java.util.Set;
import java.util.TreeSet;
import java.util.regex.Matcher;
import java.util.regex.Pattern;

/** README.md says the truth: its Java lines are one run of calls on one object, each with its answer behind it. */
public final class ReadmeTest {
    private static final String MADE = "LowAir air = new LowAir();";
    /** A call, and behind it an answer, or the exception that it throws. */
    private static final Pattern CALL = Pattern.compile("air\\.(\\w+)\\((.*?)\\); +// (?:throws )?([-.\\w]+).*");

    private final Set<String> called = new TreeSet<>();
    private LowAir air;

    public static void main(String[] args) throws IOException {
        Check.part("README.md");
        new ReadmeTest().read();
        Check.end();
    }

    private void read() throws IOException {
        boolean isJava = false;
        for (String line : Files.readAllLines(Path.of("README.md"))) {
            if (line.startsWith("```")) {
                isJava = line.equals("```java");
            } else if (isJava && line.startsWith(MADE)) {
                air = new LowAir();
            } else if (isJava && !line.isBlank()) {
                call(line);
            }
        }
        for (Method method : LowAir.class.getDeclaredMethods()) {
            if (Modifier.isPublic(method.getModifiers()) && !called.contains(method.getName())) {
                Check.fault("does not show " + method.getName() + "()");
            }
        }
    }

    private void call(String line) {
        Matcher parts = CALL.matcher(line);
        if (air == null || !parts.matches()) {
            Check.fault("cannot be read: " + line);
            return;
        }
        String[] texts = parts.group(2).isEmpty() ? new String[0] : parts.group(2).split(", ");
        Method method = method(parts.group(1), texts.length);
        if (method == null) {
            Check.fault("has no such call: " + line);
            return;
        }
        called.add(method.getName());
        Check.same(line, answer(method, texts), parts.group(3));
    }

    private static Method method(String name, int parameters) {
        for (Method method : LowAir.class.getDeclaredMethods()) {
            boolean isPublic = Modifier.isPublic(method.getModifiers());
            if (isPublic && method.getName().equals(name) && method.getParameterCount() == parameters) {
                return method;
            }
        }
        return null;
    }

    private String answer(Method method, String[] texts) {
        Object[] values = new Object[texts.length];
        for (int i = 0; i < texts.length; i++) {
            boolean isNumber = method.getParameterTypes()[i] == int.class;
            if (isNumber) {
                values[i] = Integer.valueOf(texts[i]);
            } else {
                values[i] = Boolean.valueOf(texts[i]);
            }
        }
        try {
            return method.invoke(air, values).toString();
        } catch (InvocationTargetException thrown) {
            return thrown.getCause().getClass().getSimpleName();
        } catch (IllegalAccessException thrown) {
            return "nothing that can be seen";
        }
    }
}
