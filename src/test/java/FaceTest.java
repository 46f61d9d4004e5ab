import java.lang.reflect.Constructor;
import java.lang.reflect.Field;
import java.lang.reflect.Method;
import java.lang.reflect.Modifier;
import java.util.Arrays;
import java.util.Set;
import java.util.TreeSet;

/** The public face: just the document's members, and nothing else to be seen. */
public final class FaceTest {
    private static final Due due = new Due("FaceTest");
    private static final String[] FACE = {
        "boolean behind(int, int)",
        "boolean cell(int, long)",
        "boolean create(int, int, int)",
        "boolean drop(int)",
        "boolean end(int, int, int)",
        "boolean get(int)",
        "boolean take(int)",
        "boolean text(int, long, int)",
        "int kind(int)",
        "int letter(int, int)",
        "int look(int, int)",
        "int next(int, int)",
        "int page(int, int)",
        "int put(int, int, int, int)",
        "long value(int)",
        "void clear()"};

    public static void main(String[] args) {
        Class<?> face = VersionDesk.class;
        due.yes("public", Modifier.isPublic(face.getModifiers()));
        due.yes("final", Modifier.isFinal(face.getModifiers()));
        methods(face);
        for (Field field : face.getDeclaredFields()) {
            due.yes("private field " + field.getName(), Modifier.isPrivate(field.getModifiers()));
        }
        for (Class<?> inside : face.getDeclaredClasses()) {
            int seen = inside.getModifiers();
            due.yes("static class " + inside.getSimpleName(), Modifier.isStatic(seen));
            due.no("class to be seen " + inside.getSimpleName(), Modifier.isPublic(seen) || Modifier.isProtected(seen));
        }
        Constructor<?>[] constructors = face.getDeclaredConstructors();
        due.is("constructors", constructors.length, 1);
        due.is("parameters of the constructor", constructors[0].getParameterCount(), 0);
        due.yes("public constructor", Modifier.isPublic(constructors[0].getModifiers()));
        due.close();
    }

    private static void methods(Class<?> face) {
        Set<String> seen = new TreeSet<>();
        Set<String> names = new TreeSet<>();
        for (Method method : face.getDeclaredMethods()) {
            if (Modifier.isPublic(method.getModifiers())) {
                seen.add(written(method));
                names.add(method.getName());
            }
        }
        due.yes("the methods are " + seen, seen.equals(new TreeSet<>(Arrays.asList(FACE))));
        for (Method method : face.getDeclaredMethods()) {
            if (!Modifier.isPublic(method.getModifiers())) {
                due.yes("private method " + method.getName(), Modifier.isPrivate(method.getModifiers()));
                due.no("a public name for " + method.getName(), names.contains(method.getName()));
            }
        }
    }

    private static String written(Method method) {
        StringBuilder line = new StringBuilder();
        line.append(method.getReturnType()).append(' ').append(method.getName()).append('(');
        String between = "";
        for (Class<?> type : method.getParameterTypes()) {
            line.append(between).append(type);
            between = ", ";
        }
        return line.append(')').toString();
    }
}
