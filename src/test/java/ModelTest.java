import java.util.ArrayList;
import java.util.HashSet;
import java.util.List;
import java.util.Random;
import java.util.Set;

/**
 * Promises 20 to 23 on many files: each is scanned by a second scan that is written another way
 * (box in box by recursion, a refusal thrown), and the answers are compared. The numbers that make
 * the files always are the same ones.
 */
public final class ModelTest {
    private static final Check check = new Check();
    private static final Random random = new Random(20261115);

    public static void main(String[] args) {
        int[] told = new int[8];
        for (int k = 0; k < 60000; k++) {
            byte[] file = someFile();
            // An object is for 512 calls, those that ask for the plan among them.
            if (file.length <= 320) {
                told[compare(file)]++;
            }
        }
        for (int number = 0; number < 8; number++) {
            check.due("number " + number + " was told often", told[number] > 100 ? 1 : 0, 1);
        }
        for (int k = 0; k < 2000; k++) {
            writeAndRead();
        }
        check.end();
    }

    private static int compare(byte[] file) {
        Model model = new Model(file);
        int number = model.scan();
        FileBoxes x = Boxes.put(file);
        String what = java.util.HexFormat.of().formatHex(file);
        check.due(what + " scan()", x.scan(), number);
        check.due(what + " place()", x.place(), number == 0 ? -1 : model.place);
        if (number == 0) {
            check.due(what + " stream(0)", x.stream(0), model.streamFrom);
            check.due(what + " stream(1)", x.stream(1), model.streamCount);
            check.due(what + " plan", planOf(x).equals(model.plan()) ? 1 : 0, 1);
        }
        return number;
    }

    /** All that can be asked of a plan, in one list. */
    static List<Long> planOf(FileBoxes x) {
        List<Long> all = new ArrayList<>();
        for (int what = 0; what <= 10; what++) {
            all.add((long) x.get(what, 0));
        }
        int columns = x.get(8, 0);
        int mapped = x.get(9, 0);
        int lines = x.get(10, 0);
        int[] counts = {x.get(2, 0), Math.max(0, x.get(6, 0)), columns, mapped, mapped, mapped, lines, lines, lines};
        for (int k = 0; k < counts.length; k++) {
            for (int a = 0; a < counts[k]; a++) {
                all.add((long) x.get(20 + k, a));
            }
        }
        for (int k = 0; k < 6; k++) {
            all.add((long) x.get(30 + k, 0));
            all.add((long) x.get(40 + k, 0));
        }
        int entries = x.get(7, 0);
        for (int i = 0; i < entries; i++) {
            for (int c = 0; c < columns; c++) {
                all.add(x.number(i, c));
            }
        }
        return all;
    }

    private static int below(int limit) {
        return random.nextInt(limit);
    }

    private static boolean seldom() {
        return below(40) == 0;
    }

    private static byte[] someBytes(int count) {
        byte[] row = new byte[count];
        random.nextBytes(row);
        return row;
    }

    private static int someBits() {
        return seldom() ? below(256) : below(38) + 128 * below(2);
    }

    private static byte[] someBox(int name, byte[]... parts) {
        byte[] content = Boxes.join(parts);
        if (seldom()) {
            content = java.util.Arrays.copyOf(content, Math.max(0, content.length + below(9) - 4));
        }
        if (seldom()) {
            return Boxes.boxOfLength(below(content.length + 12), name, content);
        }
        return below(8) == 0 ? Boxes.farBox(name, content) : Boxes.box(name, content);
    }

    private static int someName() {
        int[] names = {Boxes.SIGN, Boxes.KIND, Boxes.HEAD, Boxes.STREAM, Boxes.SIZE, Boxes.BITS, Boxes.COLOUR,
            Boxes.PALETTE, Boxes.MAP, Boxes.CHANNELS, Boxes.RESOLUTION, Boxes.CAPTURE, Boxes.DISPLAY};
        return seldom() ? names[below(names.length)] : Boxes.OTHER;
    }

    private static byte[] someFile() {
        List<byte[]> boxes = new ArrayList<>();
        boxes.add(someBox(Boxes.SIGN, Boxes.u4(seldom() && seldom() ? 1 : 0x0D0A870A)));
        boxes.add(someBox(Boxes.KIND, Boxes.u4(1, 2, below(3), seldom() ? 3 : 0x6A703220)));
        boxes.add(someHead());
        boxes.add(someBox(Boxes.STREAM, someBytes(below(5))));
        if (below(6) == 0) {
            boxes.add(someBox(seldom() ? Boxes.HEAD : Boxes.STREAM, someBytes(below(5))));
        }
        boxes.add(2 + below(boxes.size() - 1), someBox(someName(), someBytes(below(20))));
        disturb(boxes);
        byte[] file = Boxes.join(boxes.toArray(new byte[0][]));
        for (int k = below(3) - 1; k > 0 && file.length > 0; k--) {
            file[below(file.length)] = (byte) (below(2) == 0 ? below(256) : below(3));
        }
        return seldom() ? java.util.Arrays.copyOf(file, below(file.length + 1)) : file;
    }

    private static void disturb(List<byte[]> boxes) {
        if (boxes.size() > 1 && seldom()) {
            boxes.add(below(boxes.size()), boxes.remove(below(boxes.size())));
        }
        if (boxes.size() > 1 && seldom()) {
            boxes.add(boxes.get(below(boxes.size())));
        }
        if (boxes.size() > 1 && seldom()) {
            boxes.remove(below(boxes.size()));
        }
    }

    private static byte[] someHead() {
        int components = seldom() ? below(20) : 1 + below(4);
        boolean others = below(2) == 0;
        List<byte[]> boxes = new ArrayList<>();
        if (others) {
            byte[] bits = new byte[components];
            for (int c = 0; c < components; c++) {
                bits[c] = (byte) someBits();
            }
            boxes.add(someBox(Boxes.BITS, bits));
        }
        boxes.add(someColour());
        boolean mapped = below(2) == 0;
        if (below(2) == 0) {
            boxes.add(below(boxes.size() + 1), someBox(Boxes.CHANNELS, someLines(mapped ? 3 : components)));
        }
        if (below(2) == 0) {
            boxes.add(below(boxes.size() + 1), someResolution());
        }
        if (below(4) == 0) {
            boxes.add(someColour());
        }
        boxes.add(below(boxes.size() + 1), someBox(someName(), someBytes(below(6))));
        if (mapped) {
            int first = below(boxes.size() + 1);
            int columns = seldom() ? below(11) : 1 + below(3);
            boxes.add(first, somePalette(columns));
            boxes.add(first + 1 + below(boxes.size() - first), someMap(components, columns));
        }
        boxes.add(0, someBox(Boxes.SIZE, Boxes.u4(seldom() ? 0 : 5, seldom() ? 1L << 31 : 6), Boxes.u2(components),
                Boxes.bytes(others ? 255 : someBits(), 7, below(2), seldom() ? 2 : 1)));
        disturb(boxes);
        return someBox(Boxes.HEAD, boxes.toArray(new byte[0][]));
    }

    private static byte[] someColour() {
        int method = 1 + below(3);
        if (method == 1) {
            return someBox(Boxes.COLOUR, Boxes.bytes(1, below(256), 0), Boxes.u4(seldom() ? below(30) : 16 + below(3)));
        }
        return someBox(Boxes.COLOUR, Boxes.bytes(method, 0, 0), someBytes(1 + below(6)));
    }

    private static byte[] someLines(int channels) {
        int lines = seldom() ? below(20) : below(Math.min(channels, 4) + 1);
        byte[] all = Boxes.u2(lines);
        int first = below(3);
        for (int k = 0; k < lines; k++) {
            int channel = seldom() ? below(20) : (first + k) % Math.max(1, channels);
            int[] types = {0, 1, 2, 65535};
            all = Boxes.join(all, Boxes.u2(channel, seldom() ? 3 : types[below(4)], below(65536)));
        }
        return all;
    }

    private static byte[] someResolution() {
        List<byte[]> boxes = new ArrayList<>();
        for (int name : new int[] {Boxes.CAPTURE, Boxes.DISPLAY, someName()}) {
            if (below(2) == 0) {
                boxes.add(below(boxes.size() + 1), someBox(name, Boxes.u2(1 + below(65535), seldom() ? 0 : 7,
                        1 + below(65535), seldom() ? 0 : 8), someBytes(2)));
            }
        }
        disturb(boxes);
        return someBox(Boxes.RESOLUTION, boxes.toArray(new byte[0][]));
    }

    private static byte[] somePalette(int columns) {
        int entries = seldom() ? 0 : 1 + below(4);
        byte[] all = Boxes.join(Boxes.u2(entries), Boxes.bytes(columns));
        int width = 0;
        for (int c = 0; c < columns; c++) {
            int bits = someBits();
            all = Boxes.join(all, Boxes.bytes(bits));
            width += (bits % 128 + 8) / 8;
        }
        return someBox(Boxes.PALETTE, all, someBytes(entries * width));
    }

    private static byte[] someMap(int components, int columns) {
        int lines = seldom() ? 17 : 3;
        byte[] all = new byte[0];
        for (int k = 0; k < lines; k++) {
            int way = seldom() ? 2 : below(2);
            int column = way == 0 && !seldom() ? 0 : below(columns + (seldom() ? 2 : columns == 0 ? 1 : 0));
            all = Boxes.join(all, Boxes.u2(seldom() ? components : below(Math.max(1, components))), Boxes.bytes(way, column));
        }
        return someBox(Boxes.MAP, all);
    }

    /** What is written from a plan is read into the same plan, and written again as it was. */
    private static void writeAndRead() {
        FileBoxes x = new FileBoxes();
        somePlan(x);
        List<Long> before = planOf(x);
        int bytes = below(4);
        int length = x.write(bytes, below(2) == 0);
        for (int k = 0; k < bytes; k++) {
            x.put(below(256));
        }
        x.plan();
        check.due("a written file", x.scan(), 0);
        check.due("its stream", x.stream(0), length);
        check.due("its bytes", x.stream(1), bytes);
        check.due("its plan", planOf(x).equals(before) ? 1 : 0, 1);
    }

    private static void somePlan(FileBoxes x) {
        int components = 1 + below(16);
        x.size(1 + below(Integer.MAX_VALUE), 1 + below(Integer.MAX_VALUE), components, below(38), below(2) == 0, below(2) == 0);
        if (below(2) == 0) {
            x.bits(below(components), 128 + below(38));
        }
        x.colours(below(2) == 0 ? 0 : 16 + below(3));
        for (int k = x.get(6, 0) < 0 ? 0 : 1 + below(9); k > 0; k--) {
            x.profile(below(256));
        }
        if (below(2) == 0) {
            somePaletteOf(x, components);
        }
        int channels = x.get(9, 0) > 0 ? x.get(9, 0) : components;
        int[] types = {0, 1, 2, 65535};
        for (int k = below(channels + 1); k > 0; k--) {
            x.channel(k - 1, types[below(4)], below(65536));
        }
        for (int d = 0; d < 2; d++) {
            if (below(2) == 0) {
                x.resolution(d == 0, 1 + below(65535), 1 + below(65535), 1 + below(65535), 1 + below(65535),
                        below(256) - 128, below(256) - 128);
            }
        }
    }

    private static void somePaletteOf(FileBoxes x, int components) {
        int entries = 1 + below(5);
        int columns = 1 + below(4);
        x.palette(entries, columns);
        for (int c = 0; c < columns; c++) {
            int bits = below(38);
            boolean signed = below(2) == 0;
            x.column(c, signed ? 128 + bits : bits);
            for (int i = 0; i < entries; i++) {
                long v = random.nextLong() & (1L << bits + 1) - 1;
                x.entry(i, c, signed ? v - (1L << bits) : v);
            }
        }
        for (int k = 1 + below(8); k > 0; k--) {
            int way = below(2);
            x.map(below(components), way, way == 0 ? 0 : below(columns));
        }
    }

    private static final class Refused extends RuntimeException {
        private static final long serialVersionUID = 1;
        final int number;

        Refused(int number) {
            this.number = number;
        }
    }

    /** The second scan. */
    private static final class Model {
        private final byte[] file;
        private final Set<Integer> seen = new HashSet<>();
        int place;
        int streamFrom = -1;
        int streamCount;
        private int[] size;
        private int[] bits;
        private int colours;
        private byte[] profile;
        private int[] columns = {};
        private final List<long[]> entries = new ArrayList<>();
        private final List<int[]> map = new ArrayList<>();
        private final List<int[]> lines = new ArrayList<>();
        private final int[] capture = new int[6];
        private final int[] display = new int[6];

        Model(byte[] file) {
            this.file = file;
        }

        int scan() {
            try {
                int at = 0;
                for (int n = 0; n < 2 || at < file.length; n++) {
                    at = box(at, file.length, 0, n);
                }
                place = file.length;
                refuseIf(streamFrom < 0, 6);
                return 0;
            } catch (Refused r) {
                return r.number;
            }
        }

        private static void refuseIf(boolean wrong, int number) {
            if (wrong) {
                throw new Refused(number);
            }
        }

        private long u(int at, int count) {
            return new java.math.BigInteger(1, java.util.Arrays.copyOfRange(file, at, at + count)).longValue();
        }

        /** Depth 0 is the file, 1 HEAD, 2 RESOLUTION; n is how many boxes came before it there. */
        private int box(int at, int limit, int depth, int n) {
            place = at;
            refuseIf(limit - at < 8, 1);
            java.math.BigInteger length = java.math.BigInteger.valueOf(u(at, 4));
            boolean far = length.intValue() == 1;
            refuseIf(far && limit - at < 16, 1);
            if (far) {
                length = new java.math.BigInteger(1, java.util.Arrays.copyOfRange(file, at + 8, at + 16));
            }
            if (!far && length.signum() == 0 && depth == 0) {
                length = java.math.BigInteger.valueOf(limit - at);
            }
            refuseIf(length.compareTo(java.math.BigInteger.valueOf(limit - at)) > 0, 1);
            int whole = length.intValue();
            refuseIf(whole < (far ? 16 : 8), 3);
            content((int) u(at + 4, 4), at, at + (far ? 16 : 8), at + whole, depth * 100 + Math.min(n, 2));
            return at + whole;
        }

        private void content(int name, int at, int from, int to, int where) {
            boolean outer = name == Boxes.SIGN || name == Boxes.KIND || name == Boxes.HEAD || name == Boxes.STREAM;
            if (where == 0) {
                refuseIf(name != Boxes.SIGN, 2);
                refuseIf(to - from != 4, 3);
                refuseIf(u(from, 4) != 0x0D0A870AL, 5);
            } else if (where == 1) {
                refuseIf(name != Boxes.KIND, 2);
                refuseIf(to - from < 12 || (to - from) % 4 > 0, 3);
                boolean found = false;
                for (int k = from + 8; k < to; k += 4) {
                    found |= u(k, 4) == 0x6A703220;
                }
                refuseIf(!found, 5);
            } else if (where == 2) {
                inFile(name, at, from, to);
            } else if (where == 100) {
                refuseIf(name != Boxes.SIZE, 2);
                sizeBox(from, to);
            } else {
                refuseIf(outer || where < 200 && name == Boxes.SIZE, 2);
                if (where < 200) {
                    inHead(name, from, to);
                } else if (name == Boxes.CAPTURE || name == Boxes.DISPLAY) {
                    ratio(name, from, to);
                }
            }
        }

        private void inFile(int name, int at, int from, int to) {
            refuseIf(name == Boxes.SIGN || name == Boxes.KIND, 2);
            if (name == Boxes.HEAD) {
                refuseIf(streamFrom >= 0, 2);
                refuseIf(!seen.add(name), 4);
                int n = 0;
                for (int k = from; k < to; n++) {
                    k = box(k, to, 1, n);
                }
                place = at;
                endOfHead();
            }
            if (name == Boxes.STREAM) {
                refuseIf(!seen.contains(Boxes.HEAD), 6);
                if (streamFrom < 0) {
                    streamFrom = from;
                    streamCount = to - from;
                }
            }
        }

        private void endOfHead() {
            refuseIf(colours == 0 && profile == null, 6);
            refuseIf(size[3] == 255 && !seen.contains(Boxes.BITS), 6);
            refuseIf(seen.contains(Boxes.PALETTE) != seen.contains(Boxes.MAP), 6);
            Set<Integer> told = new HashSet<>();
            for (int[] line : lines) {
                refuseIf(line[0] >= (map.isEmpty() ? size[2] : map.size()), 5);
                refuseIf(!told.add(line[0]), 5);
            }
        }

        private static boolean wrongBits(int b) {
            return b % 128 > 37;
        }

        private void sizeBox(int from, int to) {
            refuseIf(to - from != 14, 3);
            long high = u(from, 4);
            long wide = u(from + 4, 4);
            int components = (int) u(from + 8, 2);
            refuseIf(components > 16 || Math.max(high, wide) > Integer.MAX_VALUE, 7);
            refuseIf(high * wide * components == 0, 5);
            int b = (int) u(from + 10, 1);
            refuseIf(b != 255 && wrongBits(b) || u(from + 11, 1) != 7 || u(from + 12, 1) > 1 || u(from + 13, 1) > 1, 5);
            size = new int[] {(int) high, (int) wide, components, b, (int) u(from + 12, 1), (int) u(from + 13, 1)};
            bits = new int[components];
            java.util.Arrays.fill(bits, b);
        }

        private void inHead(int name, int from, int to) {
            int room = to - from;
            if (name == Boxes.BITS) {
                refuseIf(size[3] != 255, 2);
                refuseIf(room != size[2], 3);
                refuseIf(!seen.add(name), 4);
                for (int c = 0; c < bits.length; c++) {
                    bits[c] = (int) u(from + c, 1);
                    refuseIf(wrongBits(bits[c]), 5);
                }
            } else if (name == Boxes.COLOUR) {
                colour(from, to);
            } else if (name == Boxes.PALETTE) {
                palette(from, to);
            } else if (name == Boxes.MAP) {
                refuseIf(!seen.contains(Boxes.PALETTE), 2);
                refuseIf(room == 0 || room % 4 != 0, 3);
                refuseIf(!seen.add(name), 4);
                refuseIf(room > 64, 7);
                for (int k = from; k < to; k += 4) {
                    int[] m = {(int) u(k, 2), (int) u(k + 2, 1), (int) u(k + 3, 1)};
                    refuseIf(m[0] >= size[2] || m[1] > 1 || m[2] >= (m[1] == 1 ? columns.length : 1), 5);
                    map.add(m);
                }
            } else if (name == Boxes.CHANNELS) {
                refuseIf(room < 2 || room != 2 + 6 * u(from, 2), 3);
                refuseIf(!seen.add(name), 4);
                refuseIf(u(from, 2) > 16, 7);
                for (int k = from + 2; k < to; k += 6) {
                    int[] line = {(int) u(k, 2), (int) u(k + 2, 2), (int) u(k + 4, 2)};
                    refuseIf(line[1] > 2 && line[1] < 65535, 5);
                    lines.add(line);
                }
            } else if (name == Boxes.RESOLUTION) {
                refuseIf(!seen.add(name), 4);
                int n = 0;
                for (int k = from; k < to; n++) {
                    k = box(k, to, 2, n);
                }
            }
        }

        private void colour(int from, int to) {
            refuseIf(to - from < 4, 3);
            int method = file[from];
            boolean counts = colours == 0 && profile == null;
            if (method == 1) {
                refuseIf(to - from != 7, 3);
                long c = u(from + 3, 4);
                refuseIf(c < 16 || c > 18, 5);
                colours = counts ? (int) c : colours;
            }
            if (method == 2 && counts) {
                refuseIf(to - from > 1027, 7);
                profile = java.util.Arrays.copyOfRange(file, from + 3, to);
            }
        }

        private void palette(int from, int to) {
            refuseIf(to - from < 3 || to - from < 3 + u(from + 2, 1), 3);
            int[] told = new int[(int) u(from + 2, 1)];
            int count = (int) u(from, 2);
            long room = 3 + told.length;
            for (int c = 0; c < told.length; c++) {
                told[c] = (int) u(from + 3 + c, 1);
                room += count * ((told[c] % 128 + 1 + 7) / 8);
            }
            refuseIf(room != to - from, 3);
            refuseIf(!seen.add(Boxes.PALETTE), 4);
            refuseIf(told.length > 8 || told.length * count > 4096, 7);
            refuseIf(told.length == 0 || count == 0 || count > 1024, 5);
            for (int b : told) {
                refuseIf(wrongBits(b), 5);
            }
            columns = told;
            int k = from + 3 + told.length;
            for (int i = 0; i < count; i++) {
                long[] row = new long[told.length];
                for (int c = 0; c < told.length; c++) {
                    int n = told[c] % 128 + 1;
                    long v = u(k, (n + 7) / 8) % (1L << n);
                    row[c] = told[c] >= 128 && v >= 1L << n - 1 ? v - (1L << n) : v;
                    k += (n + 7) / 8;
                }
                entries.add(row);
            }
        }

        private void ratio(int name, int from, int to) {
            refuseIf(to - from != 10, 3);
            refuseIf(!seen.add(name), 4);
            int[] r = name == Boxes.CAPTURE ? capture : display;
            for (int k = 0; k < 4; k++) {
                r[k] = (int) u(from + 2 * k, 2);
                refuseIf(r[k] == 0, 5);
            }
            r[4] = file[from + 8];
            r[5] = file[from + 9];
        }

        List<Long> plan() {
            List<Long> all = new ArrayList<>();
            int[] single = {size[0], size[1], size[2], size[4], size[5], colours, profile == null ? -1 : profile.length,
                entries.size(), columns.length, map.size(), lines.size()};
            addAll(all, single);
            addAll(all, bits);
            for (int k = 0; profile != null && k < profile.length; k++) {
                all.add((long) (profile[k] & 255));
            }
            addAll(all, columns);
            for (List<int[]> table : List.of(map, lines)) {
                for (int part = 0; part < 3; part++) {
                    for (int[] line : table) {
                        all.add((long) line[part]);
                    }
                }
            }
            for (int k = 0; k < 6; k++) {
                all.add((long) capture[k]);
                all.add((long) display[k]);
            }
            for (long[] row : entries) {
                for (long v : row) {
                    all.add(v);
                }
            }
            return all;
        }

        private static void addAll(List<Long> all, int[] row) {
            for (int v : row) {
                all.add((long) v);
            }
        }
    }
}
