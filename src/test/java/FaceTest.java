import java.lang.reflect.Constructor;
import java.lang.reflect.Field;
import java.lang.reflect.Method;
import java.lang.reflect.Modifier;
import java.util.Arrays;
import java.util.Set;
import java.util.TreeSet;

/** The class has the document's face, and nothing else that others can see. */
public final class FaceTest {
    private static final String[] FACE = {
        "int houses(int,int) index argument", "boolean tower(int,boolean) index state",
        "int pad(int) index argument state", "int zone(int,int,int,int) index argument state",
        "int wind(int,int) argument", "int craft(int,int,int,int) index argument state",
        "boolean link(int,boolean) index", "int fetch(int) index state", "int draft(int) index state", "int clear()",
        "int ask(int,int) index argument state", "int withdraw(int) index state", "int pass(int) argument state",
        "int ofCell(int,int) index argument", "int ofCraft(int,int) index argument",
        "int ofFlight(int,int) index argument", "int occupies(int,int) index argument", "int many(int) argument",
        "double meanCharge()", "int why(int,int) index argument state", "int soonest(int) index state",
        "int way(int,int) index", "int cost(int,int) index", "int wouldNear(int) argument",
        "int wouldHave(int,int) index argument", "long digest()",
    };

    public static void main(String[] args) {
        Check.part("face");
        Set<String> due = new TreeSet<>(Arrays.asList(FACE));
        Set<String> got = new TreeSet<>();
        Set<String> names = new TreeSet<>();
        for (Method method : LowAir.class.getDeclaredMethods()) {
            if (Modifier.isPublic(method.getModifiers()) && !Modifier.isStatic(method.getModifiers())) {
                got.add(text(method));
                names.add(method.getName());
            } else if (!Modifier.isPrivate(method.getModifiers())) {
                Check.fault("can be seen: " + method);
            }
        }
        if (!due.equals(got)) {
            Check.fault("public methods are " + got);
        }
        Check.same("final class", Modifier.isFinal(LowAir.class.getModifiers()), true);
        Constructor<?>[] constructors = LowAir.class.getDeclaredConstructors();
        Check.same("constructors", constructors.length, 1);
        Check.same("public constructor", Modifier.isPublic(constructors[0].getModifiers()), true);
        Check.same("its parameters", constructors[0].getParameterCount(), 0);
        privateOnly(LowAir.class, names, true);
        for (Class<?> inside : LowAir.class.getDeclaredClasses()) {
            Check.same("static " + inside, Modifier.isStatic(inside.getModifiers()), true);
            Check.same("not public " + inside, Modifier.isPublic(inside.getModifiers()), false);
            privateOnly(inside, names, false);
        }
        Check.end();
    }

    private static void privateOnly(Class<?> looked, Set<String> names, boolean isFace) {
        int statefulFields = 0;
        for (Field field : looked.getDeclaredFields()) {
            boolean isStatic = Modifier.isStatic(field.getModifiers());
            if (isFace && !Modifier.isPrivate(field.getModifiers())) {
                Check.fault("can be seen: " + field);
            }
            if (isStatic && !Modifier.isFinal(field.getModifiers())) {
                Check.fault("static state: " + field);
            }
            statefulFields += isStatic ? 0 : 1;
        }
        if (statefulFields > 20) {
            Check.fault("more than twenty fields: " + looked);
        }
        for (Method method : looked.getDeclaredMethods()) {
            if (!Modifier.isPublic(method.getModifiers()) && names.contains(method.getName())) {
                Check.fault("bears the name of a public method: " + method);
            }
            if (method.getParameterCount() > 7) {
                Check.fault("more than seven parameters: " + method);
            }
        }
    }

    private static String text(Method method) {
        StringBuilder text = new StringBuilder();
        text.append(method.getReturnType().getSimpleName()).append(' ').append(method.getName()).append('(');
        for (Class<?> type : method.getParameterTypes()) {
            text.append(text.charAt(text.length() - 1) == '(' ? "" : ",").append(type.getSimpleName());
        }
        text.append(')');
        for (Class<?> thrown : method.getExceptionTypes()) {
            text.append(' ').append(shortened(thrown));
        }
        return text.toString();
    }

    private static String shortened(Class<?> thrown) {
        if (thrown == IndexOutOfBoundsException.class) {
            return "index";
        }
        if (thrown == IllegalArgumentException.class) {
            return "argument";
        }
        return thrown == IllegalStateException.class ? "state" : thrown.getName();
    }
}
