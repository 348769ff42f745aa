import java.lang.reflect.Constructor;
import java.lang.reflect.Field;
import java.lang.reflect.Method;
import java.lang.reflect.Modifier;
import java.util.Arrays;
import java.util.TreeSet;

/** The public face: the document's members, nothing beside them, and no state that is static. */
public final class FaceTest {
    private static final String[] METHODS = {
        "void size(int, int) throws IllegalArgumentException IllegalStateException",
        "int table(int, int, int) throws IllegalArgumentException UnsupportedOperationException",
        "void set(int, int, int) throws IndexOutOfBoundsException",
        "int extent(int) throws IndexOutOfBoundsException",
        "void clear() throws",
        "int operand(int) throws IndexOutOfBoundsException UnsupportedOperationException",
        "int result(int, int, int) throws IllegalArgumentException",
        "int cost() throws",
        "int step(int, int) throws IndexOutOfBoundsException IllegalArgumentException",
        "int value(int) throws IndexOutOfBoundsException",
        "int about(int) throws IllegalArgumentException",
    };

    public static void main(String[] args) {
        Class<?> face = ContractHouse.class;
        Checks.due("the class", Modifier.toString(face.getModifiers()), "public final");
        methods(face);
        fields(face);
        Constructor<?>[] made = face.getDeclaredConstructors();
        Checks.due("constructors", made.length, 1);
        Checks.due("its parameters", made[0].getParameterCount(), 0);
        Checks.due("it", Modifier.toString(made[0].getModifiers()), "public");
        Checks.end();
    }

    private static void methods(Class<?> face) {
        TreeSet<String> got = new TreeSet<>();
        TreeSet<String> names = new TreeSet<>();
        TreeSet<String> hidden = new TreeSet<>();
        for (Method m : face.getDeclaredMethods()) {
            if (Modifier.isPrivate(m.getModifiers())) {
                hidden.add(m.getName());
            } else {
                got.add(told(m));
                names.add(m.getName());
            }
        }
        Checks.due("methods", got.toString(), new TreeSet<>(Arrays.asList(METHODS)).toString());
        hidden.retainAll(names);
        Checks.due("private methods with a public one's name", hidden.toString(), "[]");
    }

    private static String told(Method m) {
        StringBuilder text = new StringBuilder();
        text.append(m.getReturnType()).append(' ').append(m.getName()).append('(');
        for (int p = 0; p < m.getParameterCount(); p++) {
            text.append(p == 0 ? "" : ", ").append(m.getParameterTypes()[p]);
        }
        text.append(") throws");
        for (Class<?> e : m.getExceptionTypes()) {
            text.append(' ').append(e.getSimpleName());
        }
        return text.toString();
    }

    private static void fields(Class<?> face) {
        for (Field f : face.getDeclaredFields()) {
            String modifiers = Modifier.toString(f.getModifiers());
            if (f.getName().equals("NONE")) {
                Checks.due("NONE", modifiers + " " + f.getType(), "public static final int");
            } else {
                Checks.due(f.getName() + " is private", modifiers.startsWith("private") ? 1 : 0, 1);
                boolean constant = !modifiers.contains("static") || modifiers.contains("final");
                Checks.due(f.getName() + " is no static state", constant ? 1 : 0, 1);
            }
        }
    }
}
