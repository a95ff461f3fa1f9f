import java.lang.reflect.Constructor;
import java.lang.reflect.Field;
import java.lang.reflect.Method;
import java.lang.reflect.Modifier;
import java.util.Arrays;
import java.util.Set;
import java.util.TreeSet;

/** The class has the document's face, and nothing beside it that another class could use. */
public final class FaceTest {
    private static final String[] METHODS = {
        "boolean link(int, int, boolean) IndexOutOfBoundsException IllegalArgumentException",
        "int sees(int, int) IndexOutOfBoundsException IllegalArgumentException IllegalStateException",
        "int restart(int) IndexOutOfBoundsException",
        "int ask(int, int, int) IndexOutOfBoundsException IllegalArgumentException IllegalStateException",
        "int tick(int, boolean) IllegalArgumentException",
        "boolean deliver(int) IndexOutOfBoundsException",
        "int lose(int) IndexOutOfBoundsException",
        "int twice(int) IndexOutOfBoundsException",
        "int poke(int, int, int) IndexOutOfBoundsException IllegalArgumentException",
        "void cut(int, int) IndexOutOfBoundsException IllegalArgumentException",
        "int packet(int, int) IndexOutOfBoundsException",
        "int route(int, int, int) IndexOutOfBoundsException",
        "int send(int, int) IndexOutOfBoundsException",
        "int count(int) IndexOutOfBoundsException",
    };

    public static void main(String[] args) {
        Class<?> face = HopRouters.class;
        Checks.same("modifiers", Modifier.toString(face.getModifiers()), "public final");
        methods(face);
        fields(face);
        Constructor<?>[] constructors = face.getDeclaredConstructors();
        Checks.same("constructors", constructors.length, 1);
        Checks.same("constructor", constructors[0].toString(), "public HopRouters()");
        for (Class<?> inside : face.getDeclaredClasses()) {
            Checks.same(inside + " is static", Modifier.isStatic(inside.getModifiers()), true);
            Checks.same(inside + " is private", Modifier.isPrivate(inside.getModifiers()), true);
            staticFieldsAreFinal(inside);
        }
        Checks.end();
    }

    private static void methods(Class<?> face) {
        Set<String> shown = new TreeSet<>();
        Set<String> shownNames = new TreeSet<>();
        for (Method m : face.getDeclaredMethods()) {
            if (!Modifier.isPrivate(m.getModifiers())) {
                Checks.same(m + " is public", Modifier.toString(m.getModifiers()), "public");
                shown.add(describe(m));
                shownNames.add(m.getName());
            }
        }
        Checks.same("methods", shown.toString(), new TreeSet<>(Arrays.asList(METHODS)).toString());
        for (Method m : face.getDeclaredMethods()) {
            if (Modifier.isPrivate(m.getModifiers())) {
                Checks.same(m + " bears a public name", shownNames.contains(m.getName()), false);
            }
        }
    }

    private static String describe(Method m) {
        StringBuilder s = new StringBuilder(m.getReturnType().getName());
        s.append(' ').append(m.getName()).append('(');
        for (int i = 0; i < m.getParameterCount(); i++) {
            s.append(i == 0 ? "" : ", ").append(m.getParameterTypes()[i].getName());
        }
        s.append(')');
        for (Class<?> e : m.getExceptionTypes()) {
            s.append(' ').append(e.getSimpleName());
        }
        return s.toString();
    }

    private static void fields(Class<?> face) {
        for (Field f : face.getDeclaredFields()) {
            if (!Modifier.isPrivate(f.getModifiers())) {
                Checks.same("shown field", f.toString(), "public static final int HopRouters.NONE");
            }
        }
        staticFieldsAreFinal(face);
    }

    private static void staticFieldsAreFinal(Class<?> c) {
        for (Field f : c.getDeclaredFields()) {
            if (Modifier.isStatic(f.getModifiers())) {
                Checks.same(f + " is final", Modifier.isFinal(f.getModifiers()), true);
            }
        }
    }
}
