import java.io.IOException;
import java.nio.file.Files;
import java.nio.file.Path;
import java.util.ArrayList;
import java.util.List;

/** The examples of README.md, run as they stand there. */
public final class ReadmeTest {
    private static final Check check = new Check();

    public static void main(String[] args) throws IOException {
        writtenAndRead();
        shownByPalette();
        refused();
        Path sources = Path.of(args[0]).toAbsolutePath().getParent().getParent().getParent();
        List<String> here = codeOf(Files.readAllLines(sources.resolve("test/java/ReadmeTest.java")));
        sameLines(examples(Files.readAllLines(sources.resolveSibling("README.md"))), here);
        check.end();
    }

    private static void writtenAndRead() {
        FileBoxes x = new FileBoxes();
        x.size(30, 40, 3, 7, false, false);
        x.colours(16);
        x.write(2, false);
        x.put(1);
        x.put(2);
        x.plan();
        int refusal = x.scan();
        int from = x.stream(0);
        int count = x.stream(1);
        int high = x.get(0, 0);
        check.due("scan of the example", refusal, 0);
        check.due("first byte of the picture", x.at(from), 1);
        check.due("last byte of the picture", x.at(from + 1), 2);
        check.due("bytes of the picture", count, 2);
        check.due("bytes of the file", x.at(-1), from + 2);
        check.due("high", high, 30);
    }

    private static void shownByPalette() {
        FileBoxes p = new FileBoxes();
        p.size(8, 8, 1, 1, false, false);
        p.colours(16);
        p.palette(4, 3);
        p.entry(2, 0, 255);
        p.map(0, 1, 0);
        p.map(0, 1, 1);
        p.map(0, 1, 2);
        long first = p.shown(0, 2);
        long second = p.shown(1, 2);
        check.due("column 0 of entry 2", first, 255);
        check.due("column 1 of entry 2", second, 0);
    }

    private static void refused() {
        FileBoxes r = new FileBoxes();
        r.size(1, 1, 1, 0, false, false);
        r.colours(17);
        r.write(0, false);
        r.spoil(0, 1);
        int number = r.scan();
        int place = r.place();
        check.due("number of refusal", number, 1);
        check.due("place of refusal", place, 0);
    }

    private static List<String> examples(List<String> readme) {
        List<String> lines = new ArrayList<>();
        boolean inside = false;
        for (String line : readme) {
            if (line.startsWith("```")) {
                inside = line.equals("```java");
            } else if (inside) {
                lines.add(line);
            }
        }
        return codeOf(lines);
    }

    private static List<String> codeOf(List<String> lines) {
        List<String> code = new ArrayList<>();
        for (String line : lines) {
            String plain = line.replaceFirst("//.*", "").strip();
            if (!plain.isEmpty()) {
                code.add(plain);
            }
        }
        return code;
    }

    /** The examples' lines stand in this file in the same order, with checks between them. */
    private static void sameLines(List<String> examples, List<String> here) {
        check.isTrue("README.md has examples", examples.size() > 20);
        int next = 0;
        for (String line : examples) {
            int before = next;
            while (next < here.size() && !here.get(next).equals(line)) {
                next++;
            }
            check.isTrue("'" + line + "' of README.md is run", next < here.size());
            next = next < here.size() ? next + 1 : before;
        }
    }
}
