import java.util.Arrays;
import java.util.NoSuchElementException;

/**
 * The boxes of a file that holds a coded picture, written from a plan and read into one again.
 */
public final class FileBoxes {
    private static final int MOST_BYTES = 65536;
    private static final int MOST_COMPONENTS = 16;
    private static final int MOST_LINES = 16;
    private static final int MOST_PROFILE = 1024;
    private static final int MOST_ENTRIES = 1024;
    private static final int MOST_COLUMNS = 8;
    private static final int MOST_NUMBERS = 4096;
    private static final int MOST_BITS = 37;
    private static final int SIGNED = 128;
    private static final int OTHER_BITS = 255;
    private static final int EIGHT_BITS = 7;
    private static final int RATIO_PARTS = 6;

    private static final int SIGN = 0x6A502020;
    private static final int SIGN_CONTENT = 0x0D0A870A;
    private static final int KIND = 0x66747970;
    private static final int KIND_NAME = 0x6A703220;
    private static final int HEAD = 0x6A703268;
    private static final int SIZE = 0x69686472;
    private static final int BITS = 0x62706363;
    private static final int COLOUR = 0x636F6C72;
    private static final int PALETTE = 0x70636C72;
    private static final int MAP = 0x636D6170;
    private static final int CHANNELS = 0x63646566;
    private static final int RESOLUTION = 0x72657320;
    private static final int CAPTURE = 0x72657363;
    private static final int DISPLAY = 0x72657364;
    private static final int STREAM = 0x6A703263;

    private static final int FINE = 0;
    private static final int CUT = 1;
    private static final int WRONG = 2;
    private static final int LENGTH = 3;
    private static final int TWICE = 4;
    private static final int VALUE = 5;
    private static final int MISSING = 6;
    private static final int GREAT = 7;

    private final Bytes file;
    private final Scan scanner;
    private final Writer writer;
    private Plan plan;
    private boolean scanned;
    private int refusedAt;

    public FileBoxes() {
        file = new Bytes(MOST_BYTES);
        scanner = new Scan(file);
        writer = new Writer(file);
        plan = new Plan();
        scanned = false;
        refusedAt = -1;
    }

    public void plan() {
        plan.empty();
    }

    public void size(int high, int wide, int components, int bits, boolean unknown, boolean rights)
            throws IllegalArgumentException {
        if (high < 1 || wide < 1) {
            throw new IllegalArgumentException("a side is below 1");
        }
        if (components < 1 || components > MOST_COMPONENTS) {
            throw new IllegalArgumentException("components are not 1 to 16");
        }
        if (!areBits(bits)) {
            throw new IllegalArgumentException("no such bits");
        }
        plan.high = high;
        plan.wide = wide;
        plan.components = components;
        plan.unknown = unknown;
        plan.rights = rights;
        Arrays.fill(plan.bits, bits);
    }

    public void bits(int c, int bits) throws NoSuchElementException, IllegalArgumentException {
        if (c < 0 || c >= plan.components) {
            throw new NoSuchElementException("no such component");
        }
        if (!areBits(bits)) {
            throw new IllegalArgumentException("no such bits");
        }
        setIn(plan.bits, c, bits);
    }

    public void colours(int colours) throws IllegalArgumentException {
        if (colours != 0 && !areColours(colours)) {
            throw new IllegalArgumentException("no such colours");
        }
        plan.tellColours(colours);
    }

    public int profile(int b)
            throws IllegalStateException, IllegalArgumentException, UnsupportedOperationException {
        if (!plan.hasProfile) {
            throw new IllegalStateException("no profile was told");
        }
        if (!isByte(b)) {
            throw new IllegalArgumentException("not a byte");
        }
        if (plan.profile.count >= MOST_PROFILE) {
            throw new UnsupportedOperationException("the profile is full");
        }
        plan.profile.makeRoom(1);
        plan.profile.add(b);
        return plan.profile.count;
    }

    public void palette(int entries, int columns) throws IllegalArgumentException {
        if (entries < 0 || entries > MOST_ENTRIES) {
            throw new IllegalArgumentException("entries are not 0 to 1024");
        }
        if (columns < 1 || columns > MOST_COLUMNS) {
            throw new IllegalArgumentException("columns are not 1 to 8");
        }
        if (entries * columns > MOST_NUMBERS) {
            throw new IllegalArgumentException("more than 4096 numbers");
        }
        plan.palette.become(entries, columns);
        plan.map.empty();
    }

    public void column(int c, int bits) throws NoSuchElementException, IllegalArgumentException {
        if (c < 0 || c >= plan.palette.columns) {
            throw new NoSuchElementException("no such column");
        }
        if (!areBits(bits)) {
            throw new IllegalArgumentException("no such bits");
        }
        setIn(plan.palette.bits, c, bits);
    }

    public void entry(int i, int c, long v) throws NoSuchElementException, IllegalArgumentException {
        if (!plan.palette.has(i, c)) {
            throw new NoSuchElementException("no such number");
        }
        if (!fits(v, valueIn(plan.palette.bits, c))) {
            throw new IllegalArgumentException("the number needs more bits");
        }
        plan.palette.setNumber(i, c, v);
    }

    public int map(int component, int way, int column)
            throws IllegalStateException, IllegalArgumentException {
        if (plan.palette.entries == 0 || plan.map.count >= MOST_LINES) {
            throw new IllegalStateException("no palette, or the map is full");
        }
        if (component < 0 || component >= MOST_COMPONENTS) {
            throw new IllegalArgumentException("component is not 0 to 15");
        }
        if (!isWay(way, column, plan.palette.columns)) {
            throw new IllegalArgumentException("no such way or column");
        }
        plan.map.add(component, way, column);
        return plan.map.count;
    }

    public int channel(int channel, int type, int to)
            throws IllegalArgumentException, IllegalStateException {
        if (channel < 0 || channel >= MOST_LINES) {
            throw new IllegalArgumentException("channel is not 0 to 15");
        }
        if (!isType(type) || to < 0 || to > 65535) {
            throw new IllegalArgumentException("no such type, or nothing to belong to");
        }
        if (plan.meanings.count >= MOST_LINES || plan.meanings.tells(channel)) {
            throw new IllegalStateException("16 lines are there, or the channel was told");
        }
        plan.meanings.add(channel, type, to);
        return plan.meanings.count;
    }

    public void resolution(boolean display, int down, int downOf, int across, int acrossOf,
            int downPower, int acrossPower) throws IllegalArgumentException {
        // Or-ing tells whether all six are 0, which stands for none.
        boolean none = (down | downOf | across | acrossOf | downPower | acrossPower) == 0;
        if (!none && !(isRatioPart(down) && isRatioPart(downOf) && isRatioPart(across) && isRatioPart(acrossOf))) {
            throw new IllegalArgumentException("a part is not 1 to 65535");
        }
        if (!isPower(downPower) || !isPower(acrossPower)) {
            throw new IllegalArgumentException("a power is not -128 to 127");
        }
        int[] ratio = display ? plan.display : plan.capture;
        setIn(ratio, 0, down);
        setIn(ratio, 1, downOf);
        setIn(ratio, 2, across);
        setIn(ratio, 3, acrossOf);
        setIn(ratio, 4, downPower);
        setIn(ratio, 5, acrossPower);
    }

    public int get(int what, int a) throws NoSuchElementException {
        if (what >= 20 && what <= 28) {
            return listed(what, a);
        }
        if (what >= 30 && what < 30 + RATIO_PARTS) {
            return valueIn(plan.capture, what - 30);
        }
        if (what >= 40 && what < 40 + RATIO_PARTS) {
            return valueIn(plan.display, what - 40);
        }
        switch (what) {
            case 0: return plan.high;
            case 1: return plan.wide;
            case 2: return plan.components;
            case 3: return plan.unknown ? 1 : 0;
            case 4: return plan.rights ? 1 : 0;
            case 5: return plan.colours;
            case 6: return plan.hasProfile ? plan.profile.count : -1;
            case 7: return plan.palette.entries;
            case 8: return plan.palette.columns;
            case 9: return plan.map.count;
            case 10: return plan.meanings.count;
            default: throw new NoSuchElementException("nothing of this kind");
        }
    }

    private int listed(int what, int a) throws NoSuchElementException {
        if (a < 0 || a >= plan.countOf(what)) {
            throw new NoSuchElementException("none such in the plan");
        }
        switch (what) {
            case 20: return valueIn(plan.bits, a);
            case 21: return plan.profile.byteAt(a);
            case 22: return valueIn(plan.palette.bits, a);
            case 23: case 24: case 25: return plan.map.part(a, what - 23);
            default: return plan.meanings.part(a, what - 26);
        }
    }

    public long number(int i, int c) throws NoSuchElementException {
        if (!plan.palette.has(i, c)) {
            throw new NoSuchElementException("no such number");
        }
        return plan.palette.numberAt(i, c);
    }

    public long shown(int k, int v) throws NoSuchElementException {
        if (k < 0 || k >= plan.channelCount()) {
            throw new NoSuchElementException("no such channel");
        }
        return plan.sampleShown(k, v);
    }

    public void clear() {
        file.count = 0;
        scanned = false;
    }

    public int put(int b) throws IllegalArgumentException, UnsupportedOperationException {
        if (!isByte(b)) {
            throw new IllegalArgumentException("not a byte");
        }
        if (file.count >= MOST_BYTES) {
            throw new UnsupportedOperationException("the file is full");
        }
        file.makeRoom(1);
        file.add(b);
        scanned = false;
        return file.count;
    }

    public int at(int k) throws NoSuchElementException {
        if (k == -1) {
            return file.count;
        }
        if (k < 0 || k >= file.count) {
            throw new NoSuchElementException("no such byte");
        }
        return file.byteAt(k);
    }

    public void spoil(int k, int b) throws NoSuchElementException {
        if (k < 0 || k >= file.count) {
            throw new NoSuchElementException("no such byte");
        }
        file.setByte(k, b);
        scanned = false;
    }

    public int write(int bytes, boolean far)
            throws IllegalArgumentException, IllegalStateException, UnsupportedOperationException {
        if (bytes < 0 || bytes > MOST_BYTES) {
            throw new IllegalArgumentException("bytes are not 0 to 65536");
        }
        if (!plan.canBeWritten()) {
            throw new IllegalStateException("the plan lacks something, or tells what isn't there");
        }
        int length = Writer.lengthOfAll(plan, far);
        if (file.count + length > MOST_BYTES) {
            throw new UnsupportedOperationException("the file would be too long");
        }
        file.makeRoom(length);
        writer.putAll(plan, bytes, far);
        scanned = false;
        return length;
    }

    public int scan() {
        int refusal = scanner.readFile();
        scanned = refusal == FINE;
        refusedAt = scanned ? -1 : scanner.boxAt;
        if (scanned) {
            plan = scanner.exchange(plan);
        }
        return refusal;
    }

    public int place() {
        return refusedAt;
    }

    public int stream(int what) throws IllegalStateException, NoSuchElementException {
        if (!scanned) {
            throw new IllegalStateException("the file is not scanned");
        }
        if (what != 0 && what != 1) {
            throw new NoSuchElementException("nothing of this kind");
        }
        return what == 0 ? scanner.streamFrom : scanner.streamCount;
    }

    private static int valueIn(int[] row, int k) {
        return k >= 0 && k < row.length ? row[k] : 0;
    }

    private static void setIn(int[] row, int k, int v) {
        if (k >= 0 && k < row.length) {
            row[k] = v;
        }
    }

    private static boolean isByte(int b) {
        return b >= 0 && b <= 255;
    }

    private static boolean areBits(int bits) {
        int plain = bits & ~SIGNED;
        return plain >= 0 && plain <= MOST_BITS;
    }

    private static boolean areColours(int colours) {
        return colours >= 16 && colours <= 18;
    }

    private static boolean isWay(int way, int column, int columns) {
        return way == 0 ? column == 0 : way == 1 && column >= 0 && column < columns;
    }

    private static boolean isType(int type) {
        return type >= 0 && type <= 2 || type == 65535;
    }

    private static boolean isRatioPart(int part) {
        return part >= 1 && part <= 65535;
    }

    private static boolean isPower(int power) {
        return power >= -128 && power <= 127;
    }

    // Told bits are one less than there are; those of a file may be as many as 128.
    private static int bitCount(int bits) {
        return (bits & ~SIGNED) + 1;
    }

    private static int bytesFor(int bits) {
        return (bitCount(bits) + 7) / 8;
    }

    private static boolean fits(long v, int bits) {
        return v == lowestBits(v, bits);
    }

    // The number that the lowest bits of v tell in a column of such bits.
    private static long lowestBits(long v, int bits) {
        int above = 64 - Math.min(64, bitCount(bits));
        long high = v << above;
        return (bits & SIGNED) != 0 ? high >> above : high >>> above;
    }

    /** A row of bytes that grows, up to a limit, by the room that is made before bytes are added. */
    private static final class Bytes {
        private static final int FIRST_LENGTH = 64;

        private final int most;
        private byte[] row;
        int count;

        Bytes(int most) {
            this.most = most;
            row = new byte[FIRST_LENGTH];
            count = 0;
        }

        // Doubling keeps all rows that were ever made below twice the limit.
        void makeRoom(int more) {
            int needed = Math.min(most, count + more);
            if (needed > row.length) {
                row = Arrays.copyOf(row, Math.min(most, Math.max(needed, 2 * row.length)));
            }
        }

        void add(int b) {
            if (count >= 0 && count < row.length) {
                row[count] = (byte) b;
                count++;
            }
        }

        void addNumber(long v, int bytes) {
            for (int shift = 8 * bytes - 8; shift >= 0; shift -= 8) {
                add((int) (v >> shift));
            }
        }

        void setByte(int k, int b) {
            if (k >= 0 && k < row.length) {
                row[k] = (byte) b;
            }
        }

        int byteAt(int k) {
            return k >= 0 && k < count && k < row.length ? row[k] & 255 : 0;
        }

        long numberAt(int from, int bytes) {
            long v = 0;
            for (int k = from; k < from + bytes; k++) {
                v = v << 8 | (k >= 0 && k < count && k < row.length ? row[k] & 255 : 0);
            }
            return v;
        }

        int intAt(int from, int bytes) {
            return (int) numberAt(from, bytes);
        }
    }

    /** At most 16 lines of three numbers each: a map, or what channels mean. */
    private static final class Lines {
        private final int[] parts;
        int count;

        Lines() {
            parts = new int[3 * MOST_LINES];
            count = 0;
        }

        void empty() {
            count = 0;
        }

        void add(int first, int second, int third) {
            if (count < MOST_LINES) {
                setIn(parts, 3 * count, first);
                setIn(parts, 3 * count + 1, second);
                setIn(parts, 3 * count + 2, third);
                count++;
            }
        }

        int part(int line, int which) {
            return valueIn(parts, 3 * line + which);
        }

        boolean tells(int first) {
            for (int k = 0; k < count; k++) {
                if (part(k, 0) == first) {
                    return true;
                }
            }
            return false;
        }

        boolean allFirstBelow(int limit) {
            for (int k = 0; k < count; k++) {
                if (part(k, 0) >= limit) {
                    return false;
                }
            }
            return true;
        }

        boolean someFirstTwice() {
            for (int k = 0; k < count; k++) {
                for (int before = 0; before < k; before++) {
                    if (part(k, 0) == part(before, 0)) {
                        return true;
                    }
                }
            }
            return false;
        }
    }

    /** The numbers of a palette, entry by entry; no entries and no columns if there is none. */
    private static final class Palette {
        int entries;
        int columns;
        final int[] bits;
        private long[] numbers;

        Palette() {
            entries = 0;
            columns = 0;
            bits = new int[MOST_COLUMNS];
            numbers = new long[MOST_COLUMNS];
        }

        void become(int newEntries, int newColumns) {
            entries = newEntries;
            columns = newEntries == 0 ? 0 : newColumns;
            Arrays.fill(bits, EIGHT_BITS);
            int needed = Math.max(0, Math.min(MOST_NUMBERS, entries * columns));
            if (needed > numbers.length) {
                numbers = new long[Math.min(MOST_NUMBERS, Math.max(needed, 2 * numbers.length))];
            } else {
                Arrays.fill(numbers, 0L);
            }
        }

        boolean has(int i, int c) {
            return i >= 0 && i < entries && c >= 0 && c < columns;
        }

        long numberAt(int i, int c) {
            int k = i * columns + c;
            return k >= 0 && k < numbers.length ? numbers[k] : 0;
        }

        void setNumber(int i, int c, long v) {
            int k = i * columns + c;
            if (k >= 0 && k < numbers.length) {
                numbers[k] = v;
            }
        }

        int entryLength() {
            int bytes = 0;
            for (int c = 0; c < columns; c++) {
                bytes += bytesFor(valueIn(bits, c));
            }
            return bytes;
        }
    }

    /** What a file's boxes tell. */
    private static final class Plan {
        int high;
        int wide;
        int components;
        boolean unknown;
        boolean rights;
        final int[] bits;
        int colours;
        boolean hasProfile;
        final Bytes profile;
        final Palette palette;
        final Lines map;
        final Lines meanings;
        final int[] capture;
        final int[] display;

        Plan() {
            bits = new int[MOST_COMPONENTS];
            profile = new Bytes(MOST_PROFILE);
            palette = new Palette();
            map = new Lines();
            meanings = new Lines();
            capture = new int[RATIO_PARTS];
            display = new int[RATIO_PARTS];
        }

        void empty() {
            high = 0;
            wide = 0;
            components = 0;
            unknown = false;
            rights = false;
            colours = 0;
            hasProfile = false;
            profile.count = 0;
            palette.become(0, 0);
            map.empty();
            meanings.empty();
            Arrays.fill(capture, 0);
            Arrays.fill(display, 0);
        }

        // 0 tells a profile, still without bytes.
        void tellColours(int told) {
            colours = told;
            hasProfile = told == 0;
            profile.count = 0;
        }

        boolean hasColours() {
            return colours != 0 || hasProfile;
        }

        int countOf(int what) {
            switch (what) {
                case 20: return components;
                case 21: return profile.count;
                case 22: return palette.columns;
                case 23: case 24: case 25: return map.count;
                case 26: case 27: case 28: return meanings.count;
                default: return 0;
            }
        }

        int channelCount() {
            return map.count > 0 ? map.count : components;
        }

        long sampleShown(int k, int v) {
            if (map.count == 0 || map.part(k, 1) == 0) {
                return v;
            }
            int entry = Math.max(0, Math.min(v, palette.entries - 1));
            return palette.numberAt(entry, map.part(k, 2));
        }

        boolean bitsAreAlike() {
            for (int c = 1; c < components; c++) {
                if (valueIn(bits, c) != valueIn(bits, 0)) {
                    return false;
                }
            }
            return true;
        }

        boolean canBeWritten() {
            boolean coloured = colours != 0 || hasProfile && profile.count > 0;
            boolean mapped = palette.entries == 0 || map.count > 0;
            return components > 0 && coloured && mapped
                    && map.allFirstBelow(components) && meanings.allFirstBelow(channelCount());
        }
    }

    /** Puts a plan's boxes behind what the file has. A box that is not written has length 0. */
    private static final class Writer {
        private static final int SIGN_LENGTH = 12;
        private static final int KIND_LENGTH = 20;
        private static final int SIZE_LENGTH = 22;
        private static final int RATIO_LENGTH = 18;

        private final Bytes file;

        Writer(Bytes file) {
            this.file = file;
        }

        static int lengthOfAll(Plan plan, boolean far) {
            return SIGN_LENGTH + KIND_LENGTH + lengthOfHead(plan) + (far ? 16 : 8);
        }

        private static int lengthOfHead(Plan plan) {
            return 8 + SIZE_LENGTH + lengthOfBits(plan) + lengthOfColour(plan)
                    + lengthOfPalette(plan) + lengthOfMap(plan) + lengthOfMeanings(plan)
                    + lengthOfResolution(plan);
        }

        private static int lengthOfBits(Plan plan) {
            return plan.bitsAreAlike() ? 0 : 8 + plan.components;
        }

        private static int lengthOfColour(Plan plan) {
            return 8 + 3 + (plan.hasProfile ? plan.profile.count : 4);
        }

        private static int lengthOfPalette(Plan plan) {
            Palette palette = plan.palette;
            return palette.entries == 0 ? 0
                    : 8 + 3 + palette.columns + palette.entries * palette.entryLength();
        }

        private static int lengthOfMap(Plan plan) {
            return plan.palette.entries == 0 ? 0 : 8 + 4 * plan.map.count;
        }

        private static int lengthOfMeanings(Plan plan) {
            return plan.meanings.count == 0 ? 0 : 8 + 2 + 6 * plan.meanings.count;
        }

        private static int lengthOfResolution(Plan plan) {
            int ratios = lengthOfRatio(plan.capture) + lengthOfRatio(plan.display);
            return ratios == 0 ? 0 : 8 + ratios;
        }

        // A ratio that was told has no 0 as its first part.
        private static int lengthOfRatio(int[] ratio) {
            return valueIn(ratio, 0) == 0 ? 0 : RATIO_LENGTH;
        }

        void putAll(Plan plan, int bytes, boolean far) {
            begin(SIGN_LENGTH, SIGN);
            file.addNumber(SIGN_CONTENT, 4);
            begin(KIND_LENGTH, KIND);
            file.addNumber(KIND_NAME, 4);
            file.addNumber(0, 4);
            file.addNumber(KIND_NAME, 4);
            putHead(plan);
            if (far) {
                begin(1, STREAM);
                file.addNumber(16 + bytes, 8);
            } else {
                begin(8 + bytes, STREAM);
            }
        }

        private void begin(int length, int name) {
            file.addNumber(length, 4);
            file.addNumber(name, 4);
        }

        private void putHead(Plan plan) {
            begin(lengthOfHead(plan), HEAD);
            putSize(plan);
            putBits(plan);
            putColour(plan);
            putPalette(plan);
            putMap(plan);
            putMeanings(plan);
            putResolution(plan);
        }

        private void putSize(Plan plan) {
            begin(SIZE_LENGTH, SIZE);
            file.addNumber(plan.high, 4);
            file.addNumber(plan.wide, 4);
            file.addNumber(plan.components, 2);
            file.add(plan.bitsAreAlike() ? valueIn(plan.bits, 0) : OTHER_BITS);
            file.add(7);
            file.add(plan.unknown ? 1 : 0);
            file.add(plan.rights ? 1 : 0);
        }

        private void putBits(Plan plan) {
            int length = lengthOfBits(plan);
            if (length == 0) {
                return;
            }
            begin(length, BITS);
            for (int c = 0; c < plan.components; c++) {
                file.add(valueIn(plan.bits, c));
            }
        }

        private void putColour(Plan plan) {
            begin(lengthOfColour(plan), COLOUR);
            file.add(plan.hasProfile ? 2 : 1);
            file.addNumber(0, 2);
            if (!plan.hasProfile) {
                file.addNumber(plan.colours, 4);
                return;
            }
            for (int k = 0; k < plan.profile.count; k++) {
                file.add(plan.profile.byteAt(k));
            }
        }

        private void putPalette(Plan plan) {
            Palette palette = plan.palette;
            int length = lengthOfPalette(plan);
            if (length == 0) {
                return;
            }
            begin(length, PALETTE);
            file.addNumber(palette.entries, 2);
            file.add(palette.columns);
            for (int c = 0; c < palette.columns; c++) {
                file.add(valueIn(palette.bits, c));
            }
            for (int i = 0; i < palette.entries; i++) {
                putEntry(palette, i);
            }
        }

        private void putEntry(Palette palette, int i) {
            for (int c = 0; c < palette.columns; c++) {
                int bits = valueIn(palette.bits, c);
                // Without the sign, so that the bits above the number's own are 0.
                long low = lowestBits(palette.numberAt(i, c), bits & ~SIGNED);
                file.addNumber(low, bytesFor(bits));
            }
        }

        private void putMap(Plan plan) {
            int length = lengthOfMap(plan);
            if (length == 0) {
                return;
            }
            begin(length, MAP);
            for (int k = 0; k < plan.map.count; k++) {
                file.addNumber(plan.map.part(k, 0), 2);
                file.add(plan.map.part(k, 1));
                file.add(plan.map.part(k, 2));
            }
        }

        private void putMeanings(Plan plan) {
            int length = lengthOfMeanings(plan);
            if (length == 0) {
                return;
            }
            begin(length, CHANNELS);
            file.addNumber(plan.meanings.count, 2);
            for (int k = 0; k < plan.meanings.count; k++) {
                file.addNumber(plan.meanings.part(k, 0), 2);
                file.addNumber(plan.meanings.part(k, 1), 2);
                file.addNumber(plan.meanings.part(k, 2), 2);
            }
        }

        private void putResolution(Plan plan) {
            int length = lengthOfResolution(plan);
            if (length == 0) {
                return;
            }
            begin(length, RESOLUTION);
            putRatio(CAPTURE, plan.capture);
            putRatio(DISPLAY, plan.display);
        }

        private void putRatio(int name, int[] ratio) {
            int length = lengthOfRatio(ratio);
            if (length == 0) {
                return;
            }
            begin(length, name);
            for (int k = 0; k < 4; k++) {
                file.addNumber(valueIn(ratio, k), 2);
            }
            file.add(valueIn(ratio, 4));
            file.add(valueIn(ratio, 5));
        }
    }

    /**
     * Goes through the boxes of a file, those of HEAD and RESOLUTION too, in one loop: what stands
     * open is the level, so that the calls stay few. Methods that look at a box answer the number
     * by which it is refused, and test in the order of the document's list.
     */
    private static final class Scan {
        // Every box takes eight bytes at least; HEAD, RESOLUTION and the file are left once each.
        private static final int MOST_STEPS = MOST_BYTES / 8 + 8;
        private static final int IN_FILE = 0;
        private static final int IN_HEAD = 1;
        private static final int IN_RESOLUTION = 2;
        private static final int AT_END = 3;
        private static final int SEEN_HEAD = 1;
        private static final int SEEN_SIZE = 2;
        private static final int SEEN_BITS = 4;
        private static final int SEEN_PALETTE = 8;
        private static final int SEEN_MAP = 16;
        private static final int SEEN_MEANINGS = 32;
        private static final int SEEN_RESOLUTION = 64;
        private static final int SEEN_CAPTURE = 128;
        private static final int SEEN_DISPLAY = 256;

        private final Bytes file;
        private Plan plan;
        private int level;
        private int at;
        private int seen;
        private int outerBoxes;
        private int headAt;
        private int headEnd;
        private int resolutionEnd;
        private int toldBits;
        private int name;
        private int from;
        private int end;
        int boxAt;
        int streamFrom;
        int streamCount;

        Scan(Bytes file) {
            this.file = file;
            plan = new Plan();
        }

        // What was read, for another plan that the next scan fills: so no scan makes a new one.
        Plan exchange(Plan other) {
            Plan read = plan;
            plan = other;
            return read;
        }

        int readFile() {
            plan.empty();
            level = IN_FILE;
            at = 0;
            seen = 0;
            outerBoxes = 0;
            streamFrom = -1;
            streamCount = 0;
            int refusal = FINE;
            for (int n = 0; n < MOST_STEPS && refusal == FINE && level != AT_END; n++) {
                // SIGN and KIND must be there, so they are looked for even at the end.
                refusal = at < limit() || outerBoxes < 2 ? readBox() : leave();
            }
            return refusal;
        }

        private int limit() {
            return level == IN_FILE ? file.count : level == IN_HEAD ? headEnd : resolutionEnd;
        }

        private int readBox() {
            boxAt = at;
            int refusal = open();
            if (refusal != FINE) {
                return refusal;
            }
            at = end;
            return level == IN_FILE ? readInFile() : level == IN_HEAD ? readInHead() : readInResolution();
        }

        private int open() {
            int room = limit() - at;
            if (room < 8) {
                return CUT;
            }
            long length = file.numberAt(at, 4);
            name = file.intAt(at + 4, 4);
            int lead = 8;
            if (length == 1) {
                if (room < 16) {
                    return CUT;
                }
                length = file.numberAt(at + 8, 8);
                lead = 16;
            } else if (length == 0 && level == IN_FILE) {
                length = room;
            }
            // Below 0 is a U8 with its highest bit set, far beyond any end.
            if (length < 0 || length > room) {
                return CUT;
            }
            if (length < lead) {
                return LENGTH;
            }
            from = at + lead;
            end = at + (int) length;
            return FINE;
        }

        private int leave() {
            if (level == IN_RESOLUTION) {
                level = IN_HEAD;
                return FINE;
            }
            if (level == IN_HEAD) {
                level = IN_FILE;
                boxAt = headAt;
                return endOfHead();
            }
            level = AT_END;
            boxAt = file.count;
            return streamFrom < 0 ? MISSING : FINE;
        }

        private int endOfHead() {
            boolean lacksBits = toldBits == OTHER_BITS && !was(SEEN_BITS);
            boolean lacksMap = was(SEEN_PALETTE) && !was(SEEN_MAP);
            if (!plan.hasColours() || lacksBits || lacksMap) {
                return MISSING;
            }
            boolean there = plan.meanings.allFirstBelow(plan.channelCount());
            return there && !plan.meanings.someFirstTwice() ? FINE : VALUE;
        }

        private boolean was(int box) {
            return (seen & box) != 0;
        }

        private int content() {
            return end - from;
        }

        private int readInFile() {
            outerBoxes++;
            if (outerBoxes == 1) {
                return readSign();
            }
            if (outerBoxes == 2) {
                return readKind();
            }
            switch (name) {
                case SIGN: case KIND: return WRONG;
                case HEAD: return enterHead();
                case STREAM: return readStream();
                default: return FINE;
            }
        }

        private int readSign() {
            if (name != SIGN) {
                return WRONG;
            }
            if (content() != 4) {
                return LENGTH;
            }
            return file.intAt(from, 4) == SIGN_CONTENT ? FINE : VALUE;
        }

        private int readKind() {
            if (name != KIND) {
                return WRONG;
            }
            if (content() < 12 || content() % 4 != 0) {
                return LENGTH;
            }
            for (int k = from + 8; k < end; k += 4) {
                if (file.intAt(k, 4) == KIND_NAME) {
                    return FINE;
                }
            }
            return VALUE;
        }

        private int enterHead() {
            // A STREAM has a HEAD before it, so this one is a second one behind it.
            if (streamFrom >= 0) {
                return WRONG;
            }
            if (was(SEEN_HEAD)) {
                return TWICE;
            }
            seen |= SEEN_HEAD;
            toldBits = 0;
            headAt = boxAt;
            headEnd = end;
            level = IN_HEAD;
            at = from;
            return FINE;
        }

        private int readStream() {
            if (!was(SEEN_HEAD)) {
                return MISSING;
            }
            if (streamFrom < 0) {
                streamFrom = from;
                streamCount = content();
            }
            return FINE;
        }

        private int readInHead() {
            // Only SIZE is first, and it is only first.
            if (was(SEEN_SIZE) == (name == SIZE)) {
                return WRONG;
            }
            switch (name) {
                case SIGN: case KIND: case HEAD: case STREAM: return WRONG;
                case SIZE: return readSize();
                case BITS: return readBits();
                case COLOUR: return readColour();
                case PALETTE: return readPalette();
                case MAP: return readMap();
                case CHANNELS: return readMeanings();
                case RESOLUTION: return enterResolution();
                default: return FINE;
            }
        }

        private int readSize() {
            if (content() != 14) {
                return LENGTH;
            }
            seen |= SEEN_SIZE;
            plan.high = file.intAt(from, 4);
            plan.wide = file.intAt(from + 4, 4);
            plan.components = file.intAt(from + 8, 2);
            toldBits = file.byteAt(from + 10);
            int unknown = file.byteAt(from + 12);
            int rights = file.byteAt(from + 13);
            // A side above 2^31 - 1 is below 0 as an int.
            if (plan.components > MOST_COMPONENTS || plan.high < 0 || plan.wide < 0) {
                return GREAT;
            }
            if (plan.high == 0 || plan.wide == 0 || plan.components == 0) {
                return VALUE;
            }
            if (toldBits != OTHER_BITS && !areBits(toldBits)) {
                return VALUE;
            }
            if (file.byteAt(from + 11) != 7 || unknown > 1 || rights > 1) {
                return VALUE;
            }
            Arrays.fill(plan.bits, toldBits);
            plan.unknown = unknown == 1;
            plan.rights = rights == 1;
            return FINE;
        }

        private int readBits() {
            if (toldBits != OTHER_BITS) {
                return WRONG;
            }
            if (content() != plan.components) {
                return LENGTH;
            }
            if (was(SEEN_BITS)) {
                return TWICE;
            }
            seen |= SEEN_BITS;
            for (int c = 0; c < plan.components; c++) {
                int bits = file.byteAt(from + c);
                if (!areBits(bits)) {
                    return VALUE;
                }
                setIn(plan.bits, c, bits);
            }
            return FINE;
        }

        private int readColour() {
            if (content() < 4) {
                return LENGTH;
            }
            int method = file.byteAt(from);
            if (method == 1) {
                return readColours();
            }
            if (method != 2 || plan.hasColours()) {
                return FINE;
            }
            if (content() - 3 > MOST_PROFILE) {
                return GREAT;
            }
            plan.tellColours(0);
            plan.profile.makeRoom(content() - 3);
            for (int k = from + 3; k < end; k++) {
                plan.profile.add(file.byteAt(k));
            }
            return FINE;
        }

        private int readColours() {
            if (content() != 7) {
                return LENGTH;
            }
            int colours = file.intAt(from + 3, 4);
            if (!areColours(colours)) {
                return VALUE;
            }
            if (!plan.hasColours()) {
                plan.tellColours(colours);
            }
            return FINE;
        }

        private int readPalette() {
            if (!paletteHasItsLength()) {
                return LENGTH;
            }
            if (was(SEEN_PALETTE)) {
                return TWICE;
            }
            seen |= SEEN_PALETTE;
            int entries = file.intAt(from, 2);
            int columns = file.byteAt(from + 2);
            if (columns > MOST_COLUMNS || entries * columns > MOST_NUMBERS) {
                return GREAT;
            }
            if (entries < 1 || entries > MOST_ENTRIES || columns < 1) {
                return VALUE;
            }
            plan.palette.become(entries, columns);
            for (int c = 0; c < columns; c++) {
                int bits = file.byteAt(from + 3 + c);
                if (!areBits(bits)) {
                    return VALUE;
                }
                setIn(plan.palette.bits, c, bits);
            }
            readNumbers();
            return FINE;
        }

        // By the columns that are told, however many and however wide: LENGTH comes before GREAT.
        private boolean paletteHasItsLength() {
            if (content() < 3) {
                return false;
            }
            int entries = file.intAt(from, 2);
            int columns = file.byteAt(from + 2);
            if (content() < 3 + columns) {
                return false;
            }
            int entryLength = 0;
            for (int c = 0; c < columns; c++) {
                entryLength += bytesFor(file.byteAt(from + 3 + c));
            }
            return content() == 3 + columns + entries * entryLength;
        }

        private void readNumbers() {
            Palette palette = plan.palette;
            int k = from + 3 + palette.columns;
            for (int i = 0; i < palette.entries; i++) {
                for (int c = 0; c < palette.columns; c++) {
                    int bits = valueIn(palette.bits, c);
                    int bytes = bytesFor(bits);
                    palette.setNumber(i, c, lowestBits(file.numberAt(k, bytes), bits));
                    k += bytes;
                }
            }
        }

        private int readMap() {
            if (!was(SEEN_PALETTE)) {
                return WRONG;
            }
            if (content() < 4 || content() % 4 != 0) {
                return LENGTH;
            }
            if (was(SEEN_MAP)) {
                return TWICE;
            }
            seen |= SEEN_MAP;
            if (content() / 4 > MOST_LINES) {
                return GREAT;
            }
            for (int k = from; k < end; k += 4) {
                int component = file.intAt(k, 2);
                int way = file.byteAt(k + 2);
                int column = file.byteAt(k + 3);
                if (component >= plan.components || !isWay(way, column, plan.palette.columns)) {
                    return VALUE;
                }
                plan.map.add(component, way, column);
            }
            return FINE;
        }

        private int readMeanings() {
            int lines = file.intAt(from, 2);
            if (content() < 2 || content() != 2 + 6 * lines) {
                return LENGTH;
            }
            if (was(SEEN_MEANINGS)) {
                return TWICE;
            }
            seen |= SEEN_MEANINGS;
            if (lines > MOST_LINES) {
                return GREAT;
            }
            for (int k = from + 2; k < end; k += 6) {
                int type = file.intAt(k + 2, 2);
                if (!isType(type)) {
                    return VALUE;
                }
                plan.meanings.add(file.intAt(k, 2), type, file.intAt(k + 4, 2));
            }
            return FINE;
        }

        private int enterResolution() {
            if (was(SEEN_RESOLUTION)) {
                return TWICE;
            }
            seen |= SEEN_RESOLUTION;
            resolutionEnd = end;
            level = IN_RESOLUTION;
            at = from;
            return FINE;
        }

        private int readInResolution() {
            switch (name) {
                case SIGN: case KIND: case HEAD: case STREAM: return WRONG;
                case CAPTURE: return readRatio(SEEN_CAPTURE, plan.capture);
                case DISPLAY: return readRatio(SEEN_DISPLAY, plan.display);
                default: return FINE;
            }
        }

        private int readRatio(int box, int[] ratio) {
            if (content() != 10) {
                return LENGTH;
            }
            if (was(box)) {
                return TWICE;
            }
            seen |= box;
            for (int k = 0; k < 4; k++) {
                int part = file.intAt(from + 2 * k, 2);
                if (part == 0) {
                    return VALUE;
                }
                setIn(ratio, k, part);
            }
            setIn(ratio, 4, (byte) file.byteAt(from + 8));
            setIn(ratio, 5, (byte) file.byteAt(from + 9));
            return FINE;
        }
    }
}
