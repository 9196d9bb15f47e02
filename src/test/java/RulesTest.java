import java.io.IOException;
import java.lang.reflect.Constructor;
import java.lang.reflect.Field;
import java.lang.reflect.Method;
import java.lang.reflect.Modifier;
import java.nio.file.Files;
import java.nio.file.Path;
import java.util.HashSet;
import java.util.List;
import java.util.Set;
import java.util.TreeSet;

/** The document's face, and rules of LANGUAGE.md that can be seen in the class or its text. */
public final class RulesTest {
    private static final Check check = new Check();
    private static final String[] FACE = {
        "void plan()", "void size(int,int,int,int,boolean,boolean)", "void bits(int,int)", "void colours(int)",
        "int profile(int)", "void palette(int,int)", "void column(int,int)", "void entry(int,int,long)",
        "int map(int,int,int)", "int channel(int,int,int)", "void resolution(boolean,int,int,int,int,int,int)",
        "int get(int,int)", "long number(int,int)", "long shown(int,int)", "void clear()", "int put(int)",
        "int at(int)", "void spoil(int,int)", "int write(int,boolean)", "int scan()", "int place()", "int stream(int)"};
    private static final String[] NOT_IN_TEXT = {"->", "::", "try {", "catch", "finally", "synchronized", "assert ",
        "static {", "Exact(", "System.", "Object", "@Override", "double", "float", "package "};

    public static void main(String[] args) throws IOException {
        face();
        nestedClasses();
        text(Files.readAllLines(Path.of(args[0])));
        check.end();
    }

    private static void isTrue(String what, boolean so) {
        check.due(what, so ? 1 : 0, 1);
    }

    private static String told(Method m) {
        StringBuilder all = new StringBuilder(m.getReturnType() + " " + m.getName() + "(");
        for (Class<?> p : m.getParameterTypes()) {
            all.append(all.charAt(all.length() - 1) == '(' ? "" : ",").append(p);
        }
        return all.append(")").toString();
    }

    private static void face() {
        Set<String> due = new TreeSet<>(List.of(FACE));
        Set<String> got = new TreeSet<>();
        Set<String> publicNames = new HashSet<>();
        for (Method m : FileBoxes.class.getDeclaredMethods()) {
            if (Modifier.isPublic(m.getModifiers())) {
                got.add(told(m));
                publicNames.add(m.getName());
            }
        }
        isTrue("the face is " + got, got.equals(due));
        for (Method m : FileBoxes.class.getDeclaredMethods()) {
            int how = m.getModifiers();
            isTrue(m + " is public or private", Modifier.isPublic(how) || Modifier.isPrivate(how));
            isTrue(m + " bears no public name", Modifier.isPublic(how) || !publicNames.contains(m.getName()));
        }
        for (Field f : FileBoxes.class.getDeclaredFields()) {
            isTrue(f + " is private", Modifier.isPrivate(f.getModifiers()));
        }
        Constructor<?>[] made = FileBoxes.class.getDeclaredConstructors();
        isTrue("one public constructor", made.length == 1 && Modifier.isPublic(made[0].getModifiers()));
        isTrue("final", Modifier.isFinal(FileBoxes.class.getModifiers()));
    }

    private static void nestedClasses() {
        Class<?>[] nested = FileBoxes.class.getDeclaredClasses();
        isTrue("at most twelve classes", nested.length < 12);
        for (Class<?> c : nested) {
            isTrue(c + " is static", Modifier.isStatic(c.getModifiers()));
            int fields = 0;
            for (Field f : c.getDeclaredFields()) {
                boolean fixed = Modifier.isStatic(f.getModifiers());
                isTrue(f + " is final if static", !fixed || Modifier.isFinal(f.getModifiers()));
                fields += fixed ? 0 : 1;
            }
            isTrue(c + " has at most twenty fields", fields <= 20);
            for (Method m : c.getDeclaredMethods()) {
                isTrue(m + " has at most seven parameters", m.getParameterCount() <= 7);
            }
        }
    }

    private static void text(List<String> lines) {
        int begun = 0;
        for (int k = 0; k < lines.size(); k++) {
            String line = lines.get(k);
            String where = "line " + (k + 1) + ": " + line.trim();
            for (String no : NOT_IN_TEXT) {
                isTrue(where + " has no " + no, !line.contains(no));
            }
            if (line.startsWith("import ")) {
                isTrue(where, Set.of("import java.util.Arrays;", "import java.util.NoSuchElementException;").contains(line));
            }
            if (line.isBlank()) {
                begun = k;
            }
            isTrue(where + " is in a short method", k - begun <= 60);
        }
    }
}
