import java.lang.reflect.Constructor;
import java.lang.reflect.Field;
import java.lang.reflect.Method;
import java.lang.reflect.Modifier;
import java.util.Arrays;
import java.util.TreeSet;

/** The public face: the document's members, nothing beside them, and no state that is static. */
public final class FaceTest {
    private static final String[] METHODS = {
        "void size(int, int) throws IllegalArgumentException IllegalStateException",
        "int table(int, int, int) throws IllegalArgumentException UnsupportedOperationException",
        "void set(int, int, int) throws IndexOutOfBoundsException",
        "int extent(int) throws IndexOutOfBoundsException",
        "void clear() throws",
        "int operand(int) throws IndexOutOfBoundsException UnsupportedOperationException",
        "int result(int, int, int) throws IllegalArgumentException",
        "int cost() throws",
        "int step(int, int) throws IndexOutOfBoundsException IllegalArgumentException",
        "int value(int) throws IndexOutOfBoundsException",
        "int about(int) throws IllegalArgumentException",
    };

    private static final Class<?> FACE = ContractHouse.class;

    public static void main(String[] args) {
        Checks.runAll(FaceTest.class);
    }

    static void faceClassIsPublicAndFinal() {
        Checks.due("the class", Modifier.toString(FACE.getModifiers()), "public final");
    }

    static void faceHasTheOneConstructor() {
        Constructor<?>[] made = FACE.getDeclaredConstructors();
        Checks.due("constructors", made.length, 1);
        Checks.due("its parameters", made[0].getParameterCount(), 0);
        Checks.due("it", Modifier.toString(made[0].getModifiers()), "public");
    }

    static void faceHasTheMethodsOfTheDocumentAndNoOthers() {
        TreeSet<String> got = new TreeSet<>();
        for (Method m : FACE.getDeclaredMethods()) {
            if (!Modifier.isPrivate(m.getModifiers())) {
                got.add(told(m));
            }
        }
        Checks.due("methods", got.toString(), new TreeSet<>(Arrays.asList(METHODS)).toString());
    }

    static void faceNamesAreNotThoseOfPrivateMethods() {
        TreeSet<String> open = new TreeSet<>();
        TreeSet<String> hidden = new TreeSet<>();
        for (Method m : FACE.getDeclaredMethods()) {
            (Modifier.isPrivate(m.getModifiers()) ? hidden : open).add(m.getName());
        }
        hidden.retainAll(open);
        Checks.due("names of both", hidden.toString(), "[]");
    }

    static void faceHasTheConstantNoneAndNoOtherField() {
        TreeSet<String> got = new TreeSet<>();
        for (Field f : FACE.getDeclaredFields()) {
            if (!Modifier.isPrivate(f.getModifiers())) {
                got.add(Modifier.toString(f.getModifiers()) + " " + f.getType() + " " + f.getName());
            }
        }
        Checks.due("fields", got.toString(), "[public static final int NONE]");
    }

    static void faceHidesNoStateThatIsStatic() {
        for (Field f : FACE.getDeclaredFields()) {
            boolean state = Modifier.isStatic(f.getModifiers()) && !Modifier.isFinal(f.getModifiers());
            Checks.due(f.getName() + " is static state", state ? 1 : 0, 0);
        }
    }

    private static String told(Method m) {
        StringBuilder text = new StringBuilder();
        text.append(m.getReturnType()).append(' ').append(m.getName()).append('(');
        for (int p = 0; p < m.getParameterCount(); p++) {
            text.append(p == 0 ? "" : ", ").append(m.getParameterTypes()[p]);
        }
        text.append(") throws");
        for (Class<?> e : m.getExceptionTypes()) {
            text.append(' ').append(e.getSimpleName());
        }
        return text.toString();
    }
}
