import java.lang.reflect.Constructor;
import java.lang.reflect.Field;
import java.lang.reflect.Method;
import java.lang.reflect.Modifier;
import java.util.Set;
import java.util.TreeSet;

/** The public face, and rules 1 and 5 of LANGUAGE.md as far as they show in the compiled class. */
public final class FaceTest {
    // Modifiers are compared too: the tests share the class's package, so they would run without "public" as well.
    private static final Set<String> DUE = Set.of(
            "public static final int NONE",
            "public static final int FULL",
            "public static final int STRANGER",
            "public static final int OLD",
            "public static final int MIXED",
            "public static final int FOREIGN",
            "public GroupDesk(int)",
            "public int join(int, int) throws IllegalArgumentException",
            "public int leave(int, int) throws IllegalArgumentException",
            "public int beat(int, int, int) throws IllegalArgumentException",
            "public int commit(int, int, int, int, long) throws IllegalArgumentException",
            "public long committed(int, int) throws IllegalArgumentException",
            "public int group(int, int) throws IllegalArgumentException",
            "public int share(int, int) throws IllegalArgumentException",
            "public int room(int) throws IllegalArgumentException",
            "public int restart()",
            "public int ticks(int) throws IllegalArgumentException",
            "public int notes()");

    public static void main(String[] args) {
        Class<GroupDesk> desk = GroupDesk.class;
        Check.due("public and final", desk.getModifiers(), Modifier.PUBLIC | Modifier.FINAL);
        compare(faceOf(desk));
        Set<String> names = new TreeSet<>();
        for (Method method : desk.getDeclaredMethods()) {
            Check.due("one method of the name " + method.getName(), names.add(method.getName()) ? 1 : 0, 1);
        }
        staticFieldsAreFinal(desk);
        for (Class<?> inside : desk.getDeclaredClasses()) {
            int modifiers = inside.getModifiers();
            Check.due(inside + " is static", Modifier.isStatic(modifiers) ? 1 : 0, 1);
            Check.due(inside + " is public or protected", modifiers & (Modifier.PUBLIC | Modifier.PROTECTED), 0);
            staticFieldsAreFinal(inside);
        }
        Check.done();
    }

    private static void compare(Set<String> face) {
        for (String declared : face) {
            if (!DUE.contains(declared)) {
                Check.fail("the document's face has no " + declared);
            }
        }
        for (String due : DUE) {
            if (!face.contains(due)) {
                Check.fail("the class has no " + due);
            }
        }
    }

    private static Set<String> faceOf(Class<?> desk) {
        Set<String> face = new TreeSet<>();
        for (Field field : desk.getDeclaredFields()) {
            if (!Modifier.isPrivate(field.getModifiers())) {
                face.add(modifiersOf(field.getModifiers()) + field.getType() + " " + field.getName());
            }
        }
        for (Constructor<?> constructor : desk.getDeclaredConstructors()) {
            if (!Modifier.isPrivate(constructor.getModifiers())) {
                face.add(modifiersOf(constructor.getModifiers()) + desk.getName()
                        + callOf(constructor.getParameterTypes(), constructor.getExceptionTypes()));
            }
        }
        for (Method method : desk.getDeclaredMethods()) {
            if (!Modifier.isPrivate(method.getModifiers())) {
                face.add(modifiersOf(method.getModifiers()) + method.getReturnType() + " " + method.getName()
                        + callOf(method.getParameterTypes(), method.getExceptionTypes()));
            }
        }
        return face;
    }

    private static String modifiersOf(int modifiers) {
        return modifiers == 0 ? "" : Modifier.toString(modifiers) + " ";
    }

    private static String callOf(Class<?>[] parameters, Class<?>[] thrown) {
        return "(" + listed(parameters) + ")" + (thrown.length == 0 ? "" : " throws " + listed(thrown));
    }

    private static String listed(Class<?>[] types) {
        StringBuilder text = new StringBuilder();
        for (Class<?> type : types) {
            text.append(text.length() == 0 ? "" : ", ").append(type.getSimpleName());
        }
        return text.toString();
    }

    private static void staticFieldsAreFinal(Class<?> owner) {
        for (Field field : owner.getDeclaredFields()) {
            int modifiers = field.getModifiers();
            boolean fine = !Modifier.isStatic(modifiers) || Modifier.isFinal(modifiers);
            Check.due(field + " is final if static", fine ? 1 : 0, 1);
        }
    }
}
