import java.io.IOException;
import java.lang.reflect.Executable;
import java.lang.reflect.Field;
import java.lang.reflect.Method;
import java.lang.reflect.Modifier;
import java.nio.file.Path;
import java.util.ArrayList;
import java.util.List;
import java.util.Set;
import java.util.TreeSet;
import java.util.regex.Matcher;
import java.util.regex.Pattern;

/** The rules of LANGUAGE.md that can be looked at from outside: the numbers of classes, fields and lines, and words. */
public final class LanguageTest {
    private static final Path SOURCE = Path.of("src/main/java/ObjectLinker.java");
    private static final int MAX_CLASSES = 12;
    private static final int MAX_FIELDS = 20;
    private static final int MAX_PARAMETERS = 7;
    private static final int MAX_LINES = 60;

    /** What no line of the program has, be it a comment or not. */
    private static final String[] NOT_ALLOWED = {"->", "::", "\\bpackage\\b", "\\bsynchronized\\b", "\\bassert\\b",
        "\\bfinally\\b", "\\btry\\b", "\\bstatic \\{", "Exact\\(", "\\bSystem\\.(?!arraycopy)", "\\bRandom\\b", "\\bThread\\b",
        "\\.equals\\(", "\\.hashCode\\(", "\\.toString\\(", "\" \\+", "\\+ \"", "\\bdouble\\b", "\\bfloat\\b", "[^\\x00-\\x7f]"};

    public static void main(String[] args) throws IOException {
        List<Class<?>> classes = new ArrayList<>(List.of(ObjectLinker.class.getDeclaredClasses()));
        classes.forEach(c -> Expect.due(c + " is static (1, 2)", true, Modifier.isStatic(c.getModifiers())));
        classes.add(ObjectLinker.class);
        Expect.due("classes are few (11)", true, classes.size() <= MAX_CLASSES);
        Set<String> face = new TreeSet<>();
        for (Method method : ObjectLinker.class.getDeclaredMethods()) {
            if (Modifier.isPublic(method.getModifiers())) {
                face.add(method.getName());
            }
        }
        classes.forEach(c -> dueClass(c, face));
        List<String> lines = java.nio.file.Files.readAllLines(SOURCE);
        dueWords(lines);
        dueShortMethods(lines);
        Expect.end();
    }

    private static void dueClass(Class<?> c, Set<String> face) {
        int fields = 0;
        for (Field field : c.getDeclaredFields()) {
            boolean isStatic = Modifier.isStatic(field.getModifiers());
            Expect.due(field + " is final if it is static (5)", true, !isStatic || Modifier.isFinal(field.getModifiers()));
            fields += isStatic ? 0 : 1;
        }
        Expect.due(c + " has few fields (11)", true, fields <= MAX_FIELDS);
        List<Executable> methods = new ArrayList<>(List.of(c.getDeclaredMethods()));
        methods.addAll(List.of(c.getDeclaredConstructors()));
        for (Executable method : methods) {
            Expect.due(method + " has few parameters (11)", true, method.getParameterCount() <= MAX_PARAMETERS);
            boolean isOfFace = c == ObjectLinker.class && Modifier.isPublic(method.getModifiers());
            Expect.due(method + " bears its own name (1)", true, isOfFace || !face.contains(method.getName()));
        }
    }

    private static void dueWords(List<String> lines) {
        for (String word : NOT_ALLOWED) {
            Pattern pattern = Pattern.compile(word);
            for (int i = 0; i < lines.size(); i++) {
                Expect.due(word + " in line " + (i + 1), false, pattern.matcher(lines.get(i)).find());
            }
        }
        Pattern made = Pattern.compile("\\bimport (.*);|throw new (\\w+)\\(");
        Set<String> allowed = Set.of("java.util.NoSuchElementException", "IllegalArgumentException", "IllegalStateException",
            "UnsupportedOperationException", "NoSuchElementException");
        for (String line : lines) {
            Matcher found = made.matcher(line);
            if (found.find()) {
                String name = found.group(1) == null ? found.group(2) : found.group(1);
                Expect.due(name + " is the document's (4, 6)", true, allowed.contains(name));
            }
        }
    }

    /** A method's first line is indented by 4 or 8, ends with a brace and is no class; its last is a brace below it. */
    private static void dueShortMethods(List<String> lines) {
        Pattern first = Pattern.compile("( {4}| {8})\\w[^=]*\\).*\\{");
        int methods = 0;
        for (int i = 0; i < lines.size(); i++) {
            Matcher found = first.matcher(lines.get(i));
            if (found.matches() && !lines.get(i).strip().matches("(if|for|while|switch|else)\\b.*")) {
                int end = i + lines.subList(i, lines.size()).indexOf(found.group(1) + "}");
                Expect.due("the method at line " + (i + 1) + " is short (11)", true, end > i && end - i < MAX_LINES);
                methods++;
            }
        }
        Expect.due("methods were found", true, methods > 50);
    }
}
