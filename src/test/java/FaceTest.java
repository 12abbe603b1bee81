import java.lang.reflect.Constructor;
import java.lang.reflect.Executable;
import java.lang.reflect.Field;
import java.lang.reflect.Method;
import java.lang.reflect.Modifier;
import java.util.Arrays;
import java.util.TreeSet;

/** The public face is the document's, and nothing else can be reached from outside. */
public final class FaceTest {
    private static final String[] FACE = {
        "boolean feed(long, int) throws",
        "int load(int) throws IllegalArgumentException IllegalStateException UnsupportedOperationException",
        "void clear() throws",
        "int write(int, int) throws NoSuchElementException IllegalArgumentException UnsupportedOperationException",
        "int written(int) throws",
        "int again() throws",
        "int object(int, int) throws NoSuchElementException",
        "int symbol(int, int, int) throws NoSuchElementException",
        "int relocation(int, int, int) throws NoSuchElementException",
        "int link(int) throws IllegalArgumentException IllegalStateException NoSuchElementException",
        "int image(int) throws",
        "int address(int, int) throws",
    };

    public static void main(String[] args) {
        Class<ObjectLinker> face = ObjectLinker.class;
        Expect.due("public final", true, Modifier.isPublic(face.getModifiers()) && Modifier.isFinal(face.getModifiers()));
        TreeSet<String> due = new TreeSet<>(Arrays.asList(FACE));
        TreeSet<String> found = new TreeSet<>();
        for (Method method : face.getDeclaredMethods()) {
            if (!Modifier.isPrivate(method.getModifiers()) && !method.isSynthetic()) {
                Expect.due(method + " is public", true, Modifier.isPublic(method.getModifiers()));
                found.add(signature(method));
            }
        }
        if (!found.equals(due)) {
            Expect.report("the methods are " + found + ", due are " + due);
        }
        Expect.due("constructors", 1, face.getDeclaredConstructors().length);
        for (Constructor<?> constructor : face.getDeclaredConstructors()) {
            Expect.due(constructor + " is the document's", true,
                Modifier.isPublic(constructor.getModifiers()) && constructor.getParameterCount() == 0);
        }
        for (Field field : face.getDeclaredFields()) {
            Expect.due(field + " is private", true, Modifier.isPrivate(field.getModifiers()));
        }
        Expect.end();
    }

    private static String signature(Method method) {
        StringBuilder text = new StringBuilder(method.getReturnType().getName()).append(' ').append(method.getName());
        text.append('(').append(names(method)).append(") throws");
        for (Class<?> thrown : method.getExceptionTypes()) {
            text.append(' ').append(thrown.getSimpleName());
        }
        return text.toString();
    }

    private static String names(Executable method) {
        StringBuilder text = new StringBuilder();
        for (Class<?> type : method.getParameterTypes()) {
            text.append(text.length() == 0 ? "" : ", ").append(type.getName());
        }
        return text.toString();
    }
}
