import java.io.IOException;
import java.lang.reflect.Constructor;
import java.lang.reflect.Field;
import java.lang.reflect.Method;
import java.lang.reflect.Modifier;
import java.nio.file.Files;
import java.nio.file.Path;
import java.util.HashSet;
import java.util.List;
import java.util.Set;
import java.util.StringJoiner;
import java.util.TreeSet;

/** The document's face, and rules of LANGUAGE.md that can be seen in the class or its text. */
public final class RulesTest {
    private static final Check check = new Check();
    /** The document's face; exceptions stand in its order. */
    private static final String[] FACE = {
        "void plan()",
        "void size(int, int, int, int, boolean, boolean) throws IllegalArgumentException",
        "void bits(int, int) throws NoSuchElementException, IllegalArgumentException",
        "void colours(int) throws IllegalArgumentException",
        "int profile(int) throws IllegalStateException, IllegalArgumentException, UnsupportedOperationException",
        "void palette(int, int) throws IllegalArgumentException",
        "void column(int, int) throws NoSuchElementException, IllegalArgumentException",
        "void entry(int, int, long) throws NoSuchElementException, IllegalArgumentException",
        "int map(int, int, int) throws IllegalStateException, IllegalArgumentException",
        "int channel(int, int, int) throws IllegalArgumentException, IllegalStateException",
        "void resolution(boolean, int, int, int, int, int, int) throws IllegalArgumentException",
        "int get(int, int) throws NoSuchElementException",
        "long number(int, int) throws NoSuchElementException",
        "long shown(int, int) throws NoSuchElementException",
        "void clear()",
        "int put(int) throws IllegalArgumentException, UnsupportedOperationException",
        "int at(int) throws NoSuchElementException",
        "void spoil(int, int) throws NoSuchElementException",
        "int write(int, boolean) throws IllegalArgumentException, IllegalStateException, UnsupportedOperationException",
        "int scan()",
        "int place()",
        "int stream(int) throws IllegalStateException, NoSuchElementException"};
    private static final String[] NOT_IN_TEXT = {"->", "::", "try {", "catch", "finally", "synchronized", "assert ",
        "static {", "Exact(", "System.", "Object", "@Override", "double", "float", "package "};

    public static void main(String[] args) throws IOException {
        face();
        nestedClasses();
        text(Files.readAllLines(Path.of(args[0])));
        check.end();
    }

    private static void isTrue(String what, boolean so) {
        check.due(what, so ? 1 : 0, 1);
    }

    private static String told(Method m) {
        StringJoiner types = new StringJoiner(", ", "(", ")");
        for (Class<?> p : m.getParameterTypes()) {
            types.add(p.getSimpleName());
        }
        StringJoiner thrown = new StringJoiner(", ", " throws ", "").setEmptyValue("");
        for (Class<?> e : m.getExceptionTypes()) {
            thrown.add(e.getSimpleName());
        }
        return m.getReturnType() + " " + m.getName() + types + thrown;
    }

    private static void face() {
        Set<String> due = new TreeSet<>(List.of(FACE));
        Set<String> got = new TreeSet<>();
        Set<String> publicNames = new HashSet<>();
        for (Method m : FileBoxes.class.getDeclaredMethods()) {
            if (Modifier.isPublic(m.getModifiers())) {
                got.add(told(m));
                publicNames.add(m.getName());
            }
        }
        isTrue("the face is " + got + ", due is " + due, got.equals(due));
        for (Method m : FileBoxes.class.getDeclaredMethods()) {
            int how = m.getModifiers();
            isTrue(m + " is public or private", Modifier.isPublic(how) || Modifier.isPrivate(how));
            isTrue(m + " bears no public name", Modifier.isPublic(how) || !publicNames.contains(m.getName()));
        }
        for (Field f : FileBoxes.class.getDeclaredFields()) {
            isTrue(f + " is private", Modifier.isPrivate(f.getModifiers()));
        }
        Constructor<?>[] made = FileBoxes.class.getDeclaredConstructors();
        isTrue("one public constructor", made.length == 1 && Modifier.isPublic(made[0].getModifiers()));
        isTrue("final", Modifier.isFinal(FileBoxes.class.getModifiers()));
    }

    private static void nestedClasses() {
        Class<?>[] nested = FileBoxes.class.getDeclaredClasses();
        isTrue("at most twelve classes", nested.length < 12);
        for (Class<?> c : nested) {
            isTrue(c + " is static", Modifier.isStatic(c.getModifiers()));
            int fields = 0;
            for (Field f : c.getDeclaredFields()) {
                boolean fixed = Modifier.isStatic(f.getModifiers());
                isTrue(f + " is final if static", !fixed || Modifier.isFinal(f.getModifiers()));
                fields += fixed ? 0 : 1;
            }
            isTrue(c + " has at most twenty fields", fields <= 20);
            for (Method m : c.getDeclaredMethods()) {
                isTrue(m + " has at most seven parameters", m.getParameterCount() <= 7);
            }
        }
    }

    private static void text(List<String> lines) {
        int begun = 0;
        for (int k = 0; k < lines.size(); k++) {
            String line = lines.get(k);
            String where = "line " + (k + 1) + ": " + line.trim();
            for (String no : NOT_IN_TEXT) {
                isTrue(where + " has no " + no, !line.contains(no));
            }
            if (line.startsWith("import ")) {
                isTrue(where, Set.of("import java.util.Arrays;", "import java.util.NoSuchElementException;").contains(line));
            }
            if (line.isBlank()) {
                begun = k;
            }
            isTrue(where + " is in a short method", k - begun <= 60);
        }
    }
}
