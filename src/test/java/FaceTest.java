import java.lang.reflect.Constructor;
import java.lang.reflect.Field;
import java.lang.reflect.Method;
import java.lang.reflect.Modifier;
import java.util.Arrays;
import java.util.Set;
import java.util.TreeSet;

/** The public face, and rules 1 and 5 of LANGUAGE.md as far as they show in the compiled class. */
public final class FaceTest {
    private static final Set<String> DUE = new TreeSet<>(Arrays.asList(
            "final int NONE", "final int FULL", "final int STRANGER", "final int OLD", "final int MIXED",
            "final int FOREIGN", "new(int)", "int join(int, int) IllegalArgumentException",
            "int leave(int, int) IllegalArgumentException", "int beat(int, int, int) IllegalArgumentException",
            "int commit(int, int, int, int, long) IllegalArgumentException",
            "long committed(int, int) IllegalArgumentException", "int group(int, int) IllegalArgumentException",
            "int share(int, int) IllegalArgumentException", "int room(int) IllegalArgumentException",
            "int restart()", "int ticks(int) IllegalArgumentException", "int notes()"));

    public static void main(String[] args) {
        Class<GroupDesk> desk = GroupDesk.class;
        Check.due("public and final", desk.getModifiers(), Modifier.PUBLIC | Modifier.FINAL);
        Set<String> face = faceOf(desk);
        Check.due("the face is " + face + ", equal to the document's", face.equals(DUE) ? 1 : 0, 1);
        Set<String> names = new TreeSet<>();
        for (Method method : desk.getDeclaredMethods()) {
            Check.due("one method of the name " + method.getName(), names.add(method.getName()) ? 1 : 0, 1);
        }
        staticFieldsAreFinal(desk);
        for (Class<?> inside : desk.getDeclaredClasses()) {
            Check.due(inside + " is static", Modifier.isStatic(inside.getModifiers()) ? 1 : 0, 1);
            staticFieldsAreFinal(inside);
        }
        Check.done();
    }

    private static Set<String> faceOf(Class<?> desk) {
        Set<String> face = new TreeSet<>();
        for (Field field : desk.getDeclaredFields()) {
            if (!Modifier.isPrivate(field.getModifiers())) {
                face.add("final " + field.getType() + " " + field.getName());
            }
        }
        for (Constructor<?> constructor : desk.getDeclaredConstructors()) {
            if (!Modifier.isPrivate(constructor.getModifiers())) {
                face.add("new(" + listed(constructor.getParameterTypes()) + ")");
            }
        }
        for (Method method : desk.getDeclaredMethods()) {
            if (!Modifier.isPrivate(method.getModifiers())) {
                String thrown = listed(method.getExceptionTypes());
                face.add(method.getReturnType() + " " + method.getName() + "(" + listed(method.getParameterTypes())
                        + ")" + (thrown.isEmpty() ? "" : " " + thrown));
            }
        }
        return face;
    }

    private static String listed(Class<?>[] types) {
        StringBuilder text = new StringBuilder();
        for (Class<?> type : types) {
            text.append(text.length() == 0 ? "" : ", ").append(type.getSimpleName());
        }
        return text.toString();
    }

    private static void staticFieldsAreFinal(Class<?> owner) {
        for (Field field : owner.getDeclaredFields()) {
            int modifiers = field.getModifiers();
            boolean fine = !Modifier.isStatic(modifiers) || Modifier.isFinal(modifiers);
            Check.due(field + " is final if static", fine ? 1 : 0, 1);
        }
    }
}
