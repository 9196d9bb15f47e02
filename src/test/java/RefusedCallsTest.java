import java.util.List;

/**
 * All calls that throw: of several exceptions the one that the call names first, and nothing that
 * can be asked of the object is other than before.
 */
public final class RefusedCallsTest {
    private static final Check check = new Check();
    private static final int LEAST = Integer.MIN_VALUE;
    private static final int MOST = Integer.MAX_VALUE;

    private interface Use {
        void of(FileBoxes x);
    }

    public static void main(String[] args) {
        String nothing = "A call that throws changes nothing.";
        check.sentence("3", nothing, RefusedCallsTest::size);
        check.sentence("4", nothing, RefusedCallsTest::bits);
        check.sentence("5", nothing, RefusedCallsTest::colours);
        check.sentence("6", nothing, RefusedCallsTest::profile);
        check.sentence("7", nothing, RefusedCallsTest::palette);
        check.sentence("8", nothing, RefusedCallsTest::column);
        check.sentence("9", nothing, RefusedCallsTest::entry);
        check.sentence("10", nothing, RefusedCallsTest::map);
        check.sentence("11", nothing, RefusedCallsTest::channel);
        check.sentence("12", nothing, RefusedCallsTest::resolution);
        check.sentence("13", nothing, RefusedCallsTest::get);
        check.sentence("14, 15", nothing, RefusedCallsTest::numberAndShown);
        check.sentence("17", nothing, RefusedCallsTest::put);
        check.sentence("18, 19", nothing, RefusedCallsTest::atAndSpoil);
        check.sentence("20", nothing, RefusedCallsTest::write);
        check.sentence("23", nothing, RefusedCallsTest::stream);
        check.sentence("1", "what throws changes nothing.", RefusedCallsTest::newObject);
        String first = "Of several exceptions that one is thrown which the call names first.";
        check.sentence("4", first, RefusedCallsTest::bitsFirst);
        check.sentence("6", first, RefusedCallsTest::profileFirst);
        check.sentence("8", first, RefusedCallsTest::columnFirst);
        check.sentence("9", first, RefusedCallsTest::entryFirst);
        check.sentence("10", first, RefusedCallsTest::mapFirst);
        check.sentence("11", first, RefusedCallsTest::channelFirst);
        check.sentence("17", first, RefusedCallsTest::putFirst);
        check.sentence("20", first, RefusedCallsTest::writeFirst);
        check.sentence("23", first, RefusedCallsTest::streamFirst);
        check.end();
    }

    /** A call on an object that has all that can be had. */
    private static void due(String what, Class<?> kind, Use use) {
        dueOn(State.full(), what, kind, use);
    }

    private static void dueOn(FileBoxes x, String what, Class<?> kind, Use use) {
        List<Long> before = State.of(x);
        check.isThrown(what, kind, () -> use.of(x));
        check.isTrue(what + " changes nothing", State.of(x).equals(before));
    }

    private static void size() {
        int[][] told = {{0, 9, 1, 7}, {9, 0, 1, 7}, {LEAST, 9, 1, 7}, {9, -1, 1, 7}, {9, 9, 0, 7}, {9, 9, 17, 7},
            {9, 9, LEAST, 7}, {9, 9, 1, 38}, {9, 9, 1, -1}, {9, 9, 16, 255}, {9, 9, 16, 166}, {0, 0, 0, -1}};
        for (int[] t : told) {
            due("size", Check.ARGUMENT, x -> x.size(t[0], t[1], t[2], t[3], false, false));
        }
    }

    private static void bits() {
        for (int c : new int[] {-1, 2, 15, 16, LEAST, MOST}) {
            due("bits of " + c, Check.NONE, x -> x.bits(c, 1));
        }
        for (int bits : new int[] {-1, 38, 127, 166, 255, 256, LEAST, MOST}) {
            due("bits " + bits, Check.ARGUMENT, x -> x.bits(0, bits));
        }
    }

    private static void colours() {
        for (int colours : new int[] {-1, 1, 15, 19, LEAST, MOST}) {
            due("colours " + colours, Check.ARGUMENT, x -> x.colours(colours));
        }
    }

    private static void profile() {
        for (int b : new int[] {-1, 256, LEAST, MOST}) {
            due("profile " + b, Check.ARGUMENT, x -> x.profile(b));
        }
        FileBoxes coloured = State.full();
        coloured.colours(18);
        dueOn(coloured, "profile with colours", Check.STATE, x -> x.profile(1));
        FileBoxes emptied = State.full();
        emptied.plan();
        dueOn(emptied, "profile of an empty plan", Check.STATE, x -> x.profile(1));
        FileBoxes full = fullProfile();
        check.isThrown("a full one", Check.UNSUPPORTED, () -> full.profile(1));
        check.due("how many", full.get(6, 0), 1024);
        check.due("the last one", full.get(21, 1023), 77);
        check.due("the first one", full.get(21, 0), full.at(73));
        check.due("still scanned", full.stream(1), 2);
    }

    private static FileBoxes fullProfile() {
        FileBoxes x = ScanTest.withLongProfile(1023);
        check.due("scan", x.scan(), 0);
        check.due("the last byte", x.profile(77), 1024);
        return x;
    }

    private static void palette() {
        int[][] told = {{-1, 1}, {1025, 1}, {LEAST, 1}, {MOST, 8}, {1, 0}, {1, 9}, {0, 0}, {0, 9}, {1, LEAST}, {1, MOST},
            {513, 8}, {1024, 5}};
        for (int[] t : told) {
            due("palette " + t[0] + ", " + t[1], Check.ARGUMENT, x -> x.palette(t[0], t[1]));
        }
    }

    private static void column() {
        for (int c : new int[] {-1, 3, 7, 8, LEAST, MOST}) {
            due("column " + c, Check.NONE, x -> x.column(c, 1));
        }
        for (int bits : new int[] {-1, 38, 127, 166, 255, 256, LEAST, MOST}) {
            due("column of bits " + bits, Check.ARGUMENT, x -> x.column(2, bits));
        }
    }

    private static void entry() {
        int[][] at = {{-1, 0}, {2, 0}, {0, -1}, {0, 3}, {LEAST, 2}, {MOST, 2}, {1, LEAST}, {1, MOST}};
        for (int[] a : at) {
            due("entry " + a[0] + ", " + a[1], Check.NONE, x -> x.entry(a[0], a[1], 1));
        }
        for (long v : new long[] {-1, 256, Long.MIN_VALUE, Long.MAX_VALUE, 1L << 32}) {
            due("entry of " + v, Check.ARGUMENT, x -> x.entry(1, 2, v));
        }
    }

    private static void map() {
        int[][] told = {{-1, 0, 0}, {16, 0, 0}, {LEAST, 1, 0}, {0, -1, 0}, {0, 2, 0}, {0, 1, -1}, {0, 1, 3}, {0, 1, MOST},
            {0, 0, 1}, {0, 0, -1}};
        for (int[] t : told) {
            due("map " + t[0] + ", " + t[1] + ", " + t[2], Check.ARGUMENT, x -> x.map(t[0], t[1], t[2]));
        }
        FileBoxes none = State.full();
        none.palette(0, 1);
        dueOn(none, "map without a palette", Check.STATE, x -> x.map(0, 0, 0));
        FileBoxes full = State.full();
        for (int k = 2; k <= 16; k++) {
            full.map(0, 1, 2);
        }
        dueOn(full, "a full map", Check.STATE, x -> x.map(0, 0, 0));
    }

    private static void channel() {
        int[][] told = {{-1, 0, 0}, {16, 0, 0}, {LEAST, 0, 0}, {1, -1, 0}, {1, 3, 0}, {1, 65534, 0}, {1, 65536, 0},
            {1, 0, -1}, {1, 0, 65536}};
        for (int[] t : told) {
            due("channel " + t[0] + ", " + t[1] + ", " + t[2], Check.ARGUMENT, x -> x.channel(t[0], t[1], t[2]));
        }
        due("channel told", Check.STATE, x -> x.channel(0, 2, 2));
        FileBoxes full = State.full();
        for (int k = 1; k < 16; k++) {
            full.channel(k, 0, 0);
        }
        dueOn(full, "16 lines", Check.STATE, x -> x.channel(15, 1, 1));
    }

    private static void resolution() {
        int[][] told = {{0, 9, 9, 9, 0, 0}, {9, 0, 9, 9, 0, 0}, {9, 9, 0, 9, 0, 0}, {9, 9, 9, 0, 0, 0}, {65536, 9, 9, 9, 0, 0},
            {9, 9, 9, 65536, 0, 0}, {9, 9, 9, 9, 128, 0}, {9, 9, 9, 9, 0, -129}, {0, 0, 0, 0, 1, 0}, {0, 0, 0, 0, 0, -129}};
        for (int[] t : told) {
            due("capture", Check.ARGUMENT, x -> x.resolution(false, t[0], t[1], t[2], t[3], t[4], t[5]));
            due("display", Check.ARGUMENT, x -> x.resolution(true, t[0], t[1], t[2], t[3], t[4], t[5]));
        }
    }

    private static void get() {
        for (int what : new int[] {-1, 11, 19, 29, 36, 39, 46, LEAST, MOST}) {
            due("get " + what, Check.NONE, x -> x.get(what, 0));
        }
        for (int what = 20; what <= 28; what++) {
            int w = what;
            due("get " + what + ", -1", Check.NONE, x -> x.get(w, -1));
            due("get " + what + ", 3", Check.NONE, x -> x.get(w, 3));
        }
    }

    private static void numberAndShown() {
        due("number 2, 0", Check.NONE, x -> x.number(2, 0));
        due("number 0, 3", Check.NONE, x -> x.number(0, 3));
        due("number -1, 0", Check.NONE, x -> x.number(-1, 0));
        due("shown 1", Check.NONE, x -> x.shown(1, 0));
        due("shown -1", Check.NONE, x -> x.shown(-1, 0));
    }

    private static void put() {
        for (int b : new int[] {-1, 256, LEAST, MOST}) {
            due("put " + b, Check.ARGUMENT, x -> x.put(b));
        }
        FileBoxes full = fullFile();
        check.due("scan", full.scan(), 0);
        check.isThrown("put into a full one", Check.UNSUPPORTED, () -> full.put(1));
        dueFullAndScanned(full);
    }

    /** A full file that a scan does not refuse. */
    private static FileBoxes fullFile() {
        FileBoxes x = new FileBoxes();
        x.size(5, 6, 3, 7, false, false);
        x.colours(16);
        x.write(65536 - 85, false);
        FileEdgesTest.fill(x, 65536 - 85);
        x.spoil(65535, 99);
        return x;
    }

    private static void dueFullAndScanned(FileBoxes x) {
        check.due("how many", x.at(-1), 65536);
        check.due("the last byte", x.at(65535), 99);
        check.due("the first byte that tells", x.at(3), 12);
        check.due("still scanned", x.stream(0), 85);
        check.due("no place", x.place(), -1);
    }

    private static void atAndSpoil() {
        for (int k : new int[] {-2, 87, 65536, LEAST, MOST}) {
            due("at " + k, Check.NONE, x -> x.at(k));
            due("spoil " + k, Check.NONE, x -> x.spoil(k, 1));
        }
        due("spoil -1", Check.NONE, x -> x.spoil(-1, 1));
    }

    private static void write() {
        for (int bytes : new int[] {-1, 65537, LEAST, MOST}) {
            due("write " + bytes, Check.ARGUMENT, x -> x.write(bytes, false));
            due("write far " + bytes, Check.ARGUMENT, x -> x.write(bytes, true));
        }
        Use[] lacks = {x -> x.plan(), x -> x.colours(0), x -> x.palette(1, 1), x -> x.map(2, 0, 0), x -> x.channel(1, 0, 0)};
        for (Use lack : lacks) {
            FileBoxes x = State.full();
            lack.of(x);
            dueOn(x, "write", Check.STATE, y -> y.write(0, false));
            FileBoxes far = State.full();
            lack.of(far);
            dueOn(far, "write far", Check.STATE, y -> y.write(65536, true));
        }
        FileBoxes full = fullFile();
        check.due("scan", full.scan(), 0);
        check.isThrown("write into a full one", Check.UNSUPPORTED, () -> full.write(0, false));
        check.isThrown("write far into a full one", Check.UNSUPPORTED, () -> full.write(0, true));
        dueFullAndScanned(full);
    }

    private static void stream() {
        for (int what : new int[] {-1, 2, LEAST, MOST}) {
            due("stream " + what, Check.NONE, x -> x.stream(what));
        }
        FileBoxes unscanned = State.full();
        unscanned.put(1);
        dueOn(unscanned, "stream, not scanned", Check.STATE, x -> x.stream(0));
        FileBoxes refused = State.full();
        refused.put(1);
        check.due("refused", refused.scan(), 1);
        dueOn(refused, "stream, refused", Check.STATE, x -> x.stream(0));
    }

    private static void newObject() {
        Use[] uses = {x -> x.size(0, 1, 1, 1, true, true), x -> x.colours(1), x -> x.palette(1, 9), x -> x.channel(16, 0, 0),
            x -> x.resolution(true, 1, 1, 1, 0, 0, 0), x -> x.put(256), x -> x.write(-1, true)};
        for (Use use : uses) {
            dueOn(new FileBoxes(), "new", Check.ARGUMENT, use);
        }
        Use[] states = {x -> x.profile(0), x -> x.map(0, 0, 0), x -> x.write(0, false), x -> x.stream(0)};
        for (Use use : states) {
            dueOn(new FileBoxes(), "new", Check.STATE, use);
        }
        Use[] nones = {x -> x.bits(0, 0), x -> x.column(0, 0), x -> x.entry(0, 0, 0), x -> x.get(20, 0), x -> x.number(0, 0),
            x -> x.shown(0, 0), x -> x.at(0), x -> x.spoil(0, 0)};
        for (Use use : nones) {
            dueOn(new FileBoxes(), "new", Check.NONE, use);
        }
    }

    private static void bitsFirst() {
        due("no component, no bits", Check.NONE, x -> x.bits(2, 38));
        due("no component, no bits", Check.NONE, x -> x.bits(-1, -1));
    }

    private static void profileFirst() {
        FileBoxes none = State.full();
        none.colours(16);
        dueOn(none, "no profile, no byte", Check.STATE, x -> x.profile(256));
        dueOn(new FileBoxes(), "no profile, no byte", Check.STATE, x -> x.profile(-1));
        FileBoxes full = fullProfile();
        check.isThrown("a full one, no byte", Check.ARGUMENT, () -> full.profile(256));
        check.isThrown("a full one, no byte", Check.ARGUMENT, () -> full.profile(-1));
        check.due("how many", full.get(6, 0), 1024);
    }

    private static void columnFirst() {
        due("no column, no bits", Check.NONE, x -> x.column(3, 38));
        due("no column, no bits", Check.NONE, x -> x.column(-1, -1));
    }

    private static void entryFirst() {
        due("no entry, no such number", Check.NONE, x -> x.entry(2, 0, -1));
        due("no column, no such number", Check.NONE, x -> x.entry(0, 3, 256));
        due("neither, no such number", Check.NONE, x -> x.entry(-1, -1, Long.MIN_VALUE));
    }

    private static void mapFirst() {
        FileBoxes none = State.full();
        none.palette(0, 1);
        dueOn(none, "no palette, no component", Check.STATE, x -> x.map(16, 0, 0));
        FileBoxes full = State.full();
        for (int k = 2; k <= 16; k++) {
            full.map(0, 0, 0);
        }
        dueOn(full, "a full map, no column", Check.STATE, x -> x.map(0, 1, 3));
    }

    private static void channelFirst() {
        due("told, no type", Check.ARGUMENT, x -> x.channel(0, 3, 0));
        due("told, nothing to belong to", Check.ARGUMENT, x -> x.channel(0, 0, 65536));
        FileBoxes full = State.full();
        for (int k = 1; k < 16; k++) {
            full.channel(k, 0, 0);
        }
        dueOn(full, "16 lines, no channel", Check.ARGUMENT, x -> x.channel(16, 0, 0));
    }

    private static void putFirst() {
        FileBoxes full = fullFile();
        check.due("scan", full.scan(), 0);
        check.isThrown("a full one, no byte", Check.ARGUMENT, () -> full.put(256));
        check.isThrown("a full one, no byte", Check.ARGUMENT, () -> full.put(-1));
        dueFullAndScanned(full);
    }

    private static void writeFirst() {
        FileBoxes empty = State.full();
        empty.plan();
        dueOn(empty, "no bytes, no plan", Check.ARGUMENT, x -> x.write(-1, false));
        FileBoxes full = fullFile();
        check.due("scan", full.scan(), 0);
        check.isThrown("no bytes, a full one", Check.ARGUMENT, () -> full.write(65537, true));
        full.palette(1, 1);
        check.isThrown("no map, a full one", Check.STATE, () -> full.write(0, true));
        check.isThrown("no bytes, no map, a full one", Check.ARGUMENT, () -> full.write(-1, true));
        full.map(0, 0, 0);
        check.isThrown("a full one", Check.UNSUPPORTED, () -> full.write(0, true));
        dueFullAndScanned(full);
    }

    private static void streamFirst() {
        FileBoxes unscanned = State.full();
        unscanned.spoil(0, 0);
        dueOn(unscanned, "not scanned, no such", Check.STATE, x -> x.stream(2));
        dueOn(new FileBoxes(), "not scanned, no such", Check.STATE, x -> x.stream(-1));
    }
}
