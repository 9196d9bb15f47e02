import java.util.List;

/** Promises 21 to 23: what a scan reads, and what it refuses with which number and place. */
public final class ScanTest {
    private static final Check check = new Check();
    private static final int CUT = 1;
    private static final int WRONG = 2;
    private static final int LENGTH = 3;
    private static final int TWICE = 4;
    private static final int VALUE = 5;
    private static final int MISSING = 6;
    private static final int GREAT = 7;
    // Places in files of Boxes.file: of the first box behind KIND, and if that is headWith(..),
    // of the boxes behind SIZE and behind COLOUR in it.
    private static final int HEAD_AT = 32;
    private static final int SIZE_AT = 40;
    private static final int SECOND_AT = 62;
    private static final int THIRD_AT = 77;
    // Of what stands behind HEAD and STREAM, as they are here.
    private static final int BEHIND_AT = 87;
    private static final byte[] HEAD = Boxes.headWith();
    private static final byte[] STREAM = Boxes.stream(1, 2);

    public static void main(String[] args) {
        readPlain();
        readAll();
        readColours();
        readNumbers();
        readLengths();
        readOthers();
        stateOfScan();
        refusedPlanStays();
        manyScans();
        cut();
        lengthOfBox();
        wrong();
        lengthOfContent();
        twice();
        great();
        greatByLength();
        valueInFrontAndSize();
        valueInHead();
        missing();
        order();
        check.end();
    }

    /** Puts so many bytes by few calls; which ones doesn't matter. */
    private static void fill(FileBoxes x, int bytes) {
        x.size(1, 1, 1, 7, false, false);
        x.colours(16);
        int left = bytes;
        while (left >= 110) {
            x.palette(Math.min(1024, left - 109), 1);
            x.map(0, 0, 0);
            left -= x.write(0, false);
        }
        for (int k = 0; k < left; k++) {
            x.put(k);
        }
    }

    static FileBoxes withLongProfile(int bytes) {
        FileBoxes x = Boxes.put(Boxes.join(Boxes.sign(), Boxes.kind(),
                Boxes.u4(8 + 22 + 11 + bytes, Boxes.HEAD), Boxes.size(1, 1, 1, 7),
                Boxes.u4(11 + bytes, Boxes.COLOUR), Boxes.bytes(2, 0, 0)));
        fill(x, bytes);
        Boxes.putInto(x, STREAM);
        return x;
    }

    private static void due(String what, byte[] file, int number, int place) {
        FileBoxes x = Boxes.put(file);
        check.due(what + ": scan()", x.scan(), number);
        check.due(what + ": place()", x.place(), place);
        if (number != 0) {
            check.isThrown(what + ": stream(0)", Check.STATE, () -> x.stream(0));
            check.due(what + ": plan", x.get(2, 0), 0);
        }
    }

    private static void dueRead(String what, byte[] file) {
        due(what, file, 0, -1);
    }

    /** What stands behind SIZE and COLOUR in HEAD is refused, with its own place. */
    private static void dueThird(String what, int number, byte[]... boxes) {
        due(what, Boxes.file(Boxes.headWith(boxes), STREAM), number, THIRD_AT);
    }

    private static void dueReadThird(String what, byte[]... boxes) {
        dueRead(what, Boxes.file(Boxes.headWith(boxes), STREAM));
    }

    private static FileBoxes scanned(byte[] file) {
        FileBoxes x = Boxes.put(file);
        check.due("scan()", x.scan(), 0);
        check.due("place()", x.place(), -1);
        return x;
    }

    private static void readPlain() {
        FileBoxes x = scanned(Boxes.file(HEAD, STREAM));
        int[] single = {5, 6, 3, 0, 0, 16, -1, 0, 0, 0, 0};
        for (int what = 0; what < single.length; what++) {
            check.due("plain get(" + what + ")", x.get(what, 0), single[what]);
        }
        for (int c = 0; c < 3; c++) {
            check.due("bits", x.get(20, c), 7);
        }
        check.due("stream(0)", x.stream(0), HEAD_AT + HEAD.length + 8);
        check.due("stream(1)", x.stream(1), 2);
        for (int what : new int[] {-1, 2, Integer.MAX_VALUE}) {
            check.isThrown("stream(" + what + ")", Check.NONE, () -> x.stream(what));
        }
        check.due("scan() again", x.scan(), 0);
        check.due("stream(1) again", x.stream(1), 2);
    }

    private static void readAll() {
        byte[] head = Boxes.head(
                Boxes.box(Boxes.SIZE, Boxes.u4(Integer.MAX_VALUE, 7), Boxes.u2(2), Boxes.bytes(255, 7, 1, 1)),
                Boxes.box(Boxes.RESOLUTION,
                        Boxes.box(Boxes.DISPLAY, Boxes.u2(65535, 2, 3, 4), Boxes.bytes(255, 128)),
                        Boxes.box(Boxes.CAPTURE, Boxes.u2(5, 6, 7, 8), Boxes.bytes(127, 0))),
                Boxes.box(Boxes.CHANNELS, Boxes.u2(2, 2, 65535, 65534, 0, 2, 3)),
                Boxes.palette(2, 2, 7, 137, 1, 3, 255, 200, 1, 0),
                Boxes.box(Boxes.OTHER),
                Boxes.box(Boxes.MAP, Boxes.bytes(0, 1, 1, 1, 0, 0, 0, 0, 0, 0, 1, 0)),
                Boxes.box(Boxes.BITS, Boxes.bytes(37, 165)),
                Boxes.colour(18));
        FileBoxes x = scanned(Boxes.file(head, STREAM));
        int[] single = {Integer.MAX_VALUE, 7, 2, 1, 1, 18, -1, 2, 2, 3, 2};
        for (int what = 0; what < single.length; what++) {
            check.due("all get(" + what + ")", x.get(what, 0), single[what]);
        }
        int[][] lists = {{37, 165}, {}, {7, 137}, {1, 0, 0}, {1, 0, 1}, {1, 0, 0}, {2, 0}, {65535, 2}, {65534, 3}};
        for (int k = 0; k < lists.length; k++) {
            for (int a = 0; a < lists[k].length; a++) {
                check.due("all get(" + (20 + k) + ", " + a + ")", x.get(20 + k, a), lists[k][a]);
            }
        }
        int[] capture = {5, 6, 7, 8, 127, 0};
        int[] display = {65535, 2, 3, 4, -1, -128};
        for (int k = 0; k < 6; k++) {
            check.due("capture " + k, x.get(30 + k, 0), capture[k]);
            check.due("display " + k, x.get(40 + k, 0), display[k]);
        }
        check.due("number(0, 1)", x.number(0, 1), -1);
        check.due("number(1, 0)", x.number(1, 0), 200);
        check.due("number(1, 1)", x.number(1, 1), 256);
        check.due("shown(0, 1)", x.shown(0, 1), 256);
        x.clear();
        Boxes.putInto(x, Boxes.file(HEAD, STREAM));
        check.due("another scan()", x.scan(), 0);
        for (int what = 6; what <= 10; what++) {
            check.due("nothing is left of " + what, x.get(what, 0), what == 6 ? -1 : 0);
        }
        check.due("no capture is left", x.get(30, 0), 0);
        check.due("no display is left", x.get(45, 0), 0);
    }

    private static byte[] headOfColours(byte[]... colours) {
        return Boxes.head(Boxes.size(5, 6, 3, 7), Boxes.join(colours));
    }

    private static void readColours() {
        byte[] profile = Boxes.box(Boxes.COLOUR, Boxes.bytes(2, 9, 9, 255, 0));
        byte[] method3 = Boxes.box(Boxes.COLOUR, Boxes.bytes(3, 0, 0, 1));
        byte[] method0 = Boxes.box(Boxes.COLOUR, Boxes.bytes(0, 0, 0, 1, 2, 3, 4, 5));
        FileBoxes x = scanned(Boxes.file(headOfColours(method3, profile, Boxes.colour(17)), STREAM));
        check.due("the profile counts", x.get(6, 0), 2);
        check.due("no colours", x.get(5, 0), 0);
        check.due("byte 0", x.get(21, 0), 255);
        check.due("byte 1", x.get(21, 1), 0);
        x = scanned(Boxes.file(headOfColours(method0, Boxes.colour(17), profile, Boxes.colour(18)), STREAM));
        check.due("colours count", x.get(5, 0), 17);
        check.due("no profile", x.get(6, 0), -1);
        due("none that counts", Boxes.file(headOfColours(method0, method3), STREAM), MISSING, HEAD_AT);
        FileBoxes y = withLongProfile(1024);
        check.due("a full profile", y.scan(), 0);
        check.due("its bytes", y.get(6, 0), 1024);
        check.due("its first byte", y.get(21, 0), 0);
        check.due("its fourth byte", y.get(21, 3), 12);
    }

    private static void readNumbers() {
        byte[] palette = Boxes.palette(2, 6, 0, 128, 7, 136, 37, 165,
                0xFE, 0xFE, 255, 0xFF, 0x00, 0xFF, 255, 255, 255, 255, 0xC0, 0, 0, 0, 0,
                0xFF, 0xFF, 128, 0xFE, 0xFF, 0xC0, 0, 0, 0, 1, 0x3F, 255, 255, 255, 255);
        byte[] map = Boxes.box(Boxes.MAP, Boxes.bytes(0, 0, 1, 5));
        FileBoxes x = scanned(Boxes.file(Boxes.headWith(palette, map), STREAM));
        long[][] numbers = {{0, 0, 255, -256, (1L << 38) - 1, 0}, {1, -1, 128, 255, 1, -1}};
        for (int i = 0; i < 2; i++) {
            for (int c = 0; c < 6; c++) {
                check.due("number(" + i + ", " + c + ")", x.number(i, c), numbers[i][c]);
            }
        }
        int length = x.at(-1);
        x.clear();
        check.due("written again", x.write(2, false) + 2, length);
    }

    /** Lengths as U8, and up to the end of the file. */
    private static void readLengths() {
        byte[] head = Boxes.farBox(Boxes.HEAD,
                Boxes.farBox(Boxes.SIZE, Boxes.u4(5, 6), Boxes.u2(3), Boxes.bytes(7, 7, 0, 0)),
                Boxes.farBox(Boxes.COLOUR, Boxes.bytes(1, 0, 0), Boxes.u4(16)));
        byte[] file = Boxes.join(Boxes.farBox(Boxes.SIGN, Boxes.u4(0x0D0A870A)),
                Boxes.farBox(Boxes.KIND, Boxes.u4(1, 2, 3, 0x6A703220, 4)), head,
                Boxes.farBox(Boxes.STREAM, Boxes.bytes(1, 2, 3)));
        FileBoxes x = scanned(file);
        check.due("far stream(0)", x.stream(0), file.length - 3);
        check.due("far stream(1)", x.stream(1), 3);
        x = scanned(Boxes.file(HEAD, Boxes.boxOfLength(0, Boxes.STREAM, Boxes.bytes(1, 2, 3, 4))));
        check.due("up to the end: stream(0)", x.stream(0), HEAD_AT + HEAD.length + 8);
        check.due("up to the end: stream(1)", x.stream(1), 4);
        x = scanned(Boxes.file(HEAD, Boxes.stream()));
        check.due("empty stream(1)", x.stream(1), 0);
        dueRead("another up to the end", Boxes.file(HEAD, STREAM, Boxes.boxOfLength(0, Boxes.OTHER)));
        byte[] open = Boxes.boxOfLength(0, Boxes.HEAD, Boxes.size(5, 6, 3, 7), Boxes.colour(16));
        due("HEAD up to the end", Boxes.file(open), MISSING, 77);
        due("SIGN up to the end", Boxes.boxOfLength(0, Boxes.SIGN, Boxes.u4(0x0D0A870A)), CUT, 12);
        due("KIND up to the end", Boxes.join(Boxes.sign(),
                Boxes.boxOfLength(0, Boxes.KIND, Boxes.u4(0, 0, 0x6A703220))), MISSING, 32);
    }

    /** Names that are anything where they stand. */
    private static void readOthers() {
        byte[] bare = Boxes.join(Boxes.box(Boxes.SIZE), Boxes.box(Boxes.BITS), Boxes.box(Boxes.COLOUR),
                Boxes.box(Boxes.PALETTE), Boxes.box(Boxes.MAP), Boxes.box(Boxes.CHANNELS));
        byte[] ratios = Boxes.join(Boxes.box(Boxes.CAPTURE), Boxes.box(Boxes.DISPLAY, Boxes.bytes(1)));
        byte[] resolution = Boxes.box(Boxes.RESOLUTION, Boxes.bytes(1));
        byte[] other = Boxes.box(0, Boxes.sign(), Boxes.bytes(9));
        dueRead("all others in the file", Boxes.file(bare, ratios, resolution, HEAD, other, STREAM,
                bare, ratios, resolution, other, Boxes.stream(), STREAM));
        dueReadThird("ratios in HEAD", ratios, other, ratios, other);
        dueReadThird("all others in RESOLUTION", Boxes.box(Boxes.RESOLUTION, bare, resolution, other, resolution));
        dueReadThird("an empty RESOLUTION", Boxes.box(Boxes.RESOLUTION));
        FileBoxes x = scanned(Boxes.file(other, HEAD, Boxes.stream(7), Boxes.stream(1, 2, 3)));
        check.due("the first stream counts", x.stream(1), 1);
        dueRead("no lines", Boxes.file(Boxes.headWith(Boxes.box(Boxes.CHANNELS, Boxes.u2(0))), STREAM));
    }

    private static void stateOfScan() {
        FileBoxes x = Boxes.put(Boxes.file(HEAD));
        check.due("refused", x.scan(), MISSING);
        check.due("its place", x.place(), HEAD_AT + HEAD.length);
        x.put(0);
        check.due("its place behind put", x.place(), HEAD_AT + HEAD.length);
        x.clear();
        x.plan();
        check.due("its place behind clear", x.place(), HEAD_AT + HEAD.length);
        Boxes.putInto(x, Boxes.file(HEAD, STREAM));
        check.due("read", x.scan(), 0);
        check.due("no place", x.place(), -1);
        x.plan();
        x.size(1, 1, 1, 1, false, false);
        check.due("the plan doesn't touch the scan", x.stream(1), 2);
        x.spoil(0, 9);
        check.due("no place behind spoil", x.place(), -1);
        check.isThrown("not scanned", Check.STATE, () -> x.stream(0));
        check.isThrown("not scanned, wrong too", Check.STATE, () -> x.stream(9));
        check.due("refused again", x.scan(), CUT);
        check.due("place 0", x.place(), 0);
    }

    private static void refusedPlanStays() {
        FileBoxes x = Boxes.put(Boxes.file(Boxes.headWith(
                Boxes.palette(1, 1, 7, 99), Boxes.box(Boxes.MAP, Boxes.bytes(0, 0, 1, 0)))));
        x.size(9, 8, 7, 6, true, true);
        x.colours(0);
        x.profile(5);
        x.palette(2, 1);
        x.entry(0, 0, 4);
        x.resolution(true, 1, 2, 3, 4, 5, 6);
        check.due("refused at the very end", x.scan(), MISSING);
        check.due("high stays", x.get(0, 0), 9);
        check.due("rights stay", x.get(4, 0), 1);
        check.due("the profile stays", x.get(21, 0), 5);
        check.due("the palette stays", x.number(0, 0), 4);
        check.due("no map still", x.get(9, 0), 0);
        check.due("display stays", x.get(45, 0), 6);
    }

    /** What one scan has read, refused or not, is not there in another one. */
    private static void manyScans() {
        byte[] all = Boxes.file(Boxes.headWith(Boxes.palette(1, 1, 7, 99), Boxes.box(Boxes.MAP, Boxes.bytes(0, 0, 1, 0)),
                Boxes.box(Boxes.CHANNELS, Boxes.u2(1, 0, 1, 2)),
                Boxes.box(Boxes.RESOLUTION, Boxes.box(Boxes.CAPTURE, Boxes.u2(1, 2, 3, 4, 0)))), STREAM);
        FileBoxes x = scanned(all);
        List<Long> plan = ModelTest.planOf(x);
        check.due("again", x.scan(), 0);
        check.due("the same plan", ModelTest.planOf(x).equals(plan) ? 1 : 0, 1);
        x.spoil(all.length - STREAM.length + 7, 0);
        check.due("refused behind HEAD", x.scan(), MISSING);
        check.due("the plan stays", ModelTest.planOf(x).equals(plan) ? 1 : 0, 1);
        x.clear();
        Boxes.putInto(x, Boxes.file(HEAD, STREAM));
        List<Long> plain = ModelTest.planOf(scanned(Boxes.file(HEAD, STREAM)));
        for (int k = 0; k < 2; k++) {
            check.due("plain", x.scan(), 0);
            check.due("the plain plan", ModelTest.planOf(x).equals(plain) ? 1 : 0, 1);
        }
    }

    private static void cut() {
        due("empty", Boxes.bytes(), CUT, 0);
        due("seven bytes", Boxes.bytes(0, 0, 0, 12, 106, 80, 32), CUT, 0);
        due("SIGN alone", Boxes.sign(), CUT, 12);
        due("three bytes for KIND", Boxes.join(Boxes.sign(), Boxes.bytes(0, 0, 0)), CUT, 12);
        due("SIGN too long", Boxes.boxOfLength(13, Boxes.SIGN, Boxes.u4(0x0D0A870A)), CUT, 0);
        due("another one too long", Boxes.boxOfLength(0xFFFFFFFFL, 0, Boxes.u4(0)), CUT, 0);
        due("seven bytes behind", Boxes.file(HEAD, STREAM, Boxes.bytes(0, 0, 0, 0, 0, 0, 0)), CUT, BEHIND_AT);
        due("U8 of 15 bytes", Boxes.file(Boxes.u4(1, 0), Boxes.bytes(0, 0, 0, 0, 0, 0, 16)), CUT, 32);
        due("U8 beyond", Boxes.file(Boxes.u4(1, 0), Boxes.number(17, 8)), CUT, 32);
        due("U8 far beyond", Boxes.file(Boxes.u4(1, 0), Boxes.number(1L << 32 | 16, 8)), CUT, 32);
        due("U8 with its highest bit", Boxes.file(Boxes.u4(1, 0), Boxes.number(Long.MIN_VALUE | 16, 8)), CUT, 32);
        due("U8 -1", Boxes.file(Boxes.u4(1, 0), Boxes.number(-1, 8)), CUT, 32);
        dueThird("seven bytes in HEAD", CUT, Boxes.bytes(0, 0, 0, 8, 0, 0, 0));
        dueThird("beyond HEAD", CUT, Boxes.boxOfLength(9, 0));
        dueThird("U8 in HEAD", CUT, Boxes.u4(1, 0, 0));
        due("in RESOLUTION", Boxes.file(Boxes.headWith(
                Boxes.box(Boxes.RESOLUTION, Boxes.boxOfLength(9, 0)), Boxes.box(0)), STREAM), CUT, THIRD_AT + 8);
        due("one byte in HEAD", Boxes.file(Boxes.head(Boxes.bytes(0)), STREAM), CUT, SIZE_AT);
        due("HEAD beyond", Boxes.file(Boxes.boxOfLength(24, Boxes.HEAD, Boxes.bytes(1, 2, 3))), CUT, HEAD_AT);
    }

    private static void lengthOfBox() {
        for (int length = 2; length < 8; length++) {
            due("SIGN of length " + length, Boxes.boxOfLength(length, Boxes.SIGN), LENGTH, 0);
            due("another of length " + length, Boxes.file(Boxes.boxOfLength(length, 0)), LENGTH, 32);
        }
        for (int length = 0; length < 16; length++) {
            due("U8 " + length, Boxes.file(Boxes.u4(1, Boxes.SIGN), Boxes.number(length, 8)), LENGTH, 32);
        }
        dueThird("0 in HEAD", LENGTH, Boxes.boxOfLength(0, 0));
        dueThird("7 in HEAD", LENGTH, Boxes.boxOfLength(7, Boxes.SIGN));
        due("0 in RESOLUTION", Boxes.file(Boxes.headWith(
                Boxes.box(Boxes.RESOLUTION, Boxes.boxOfLength(0, 0))), STREAM), LENGTH, THIRD_AT + 8);
        due("0 for SIZE", Boxes.file(Boxes.head(Boxes.boxOfLength(0, Boxes.SIZE))), LENGTH, SIZE_AT);
        due("zeros", Boxes.bytes(0, 0, 0, 0, 0, 0, 0, 0), WRONG, 0);
    }

    private static void wrong() {
        due("KIND first", Boxes.join(Boxes.kind(), Boxes.sign()), WRONG, 0);
        due("STREAM first", STREAM, WRONG, 0);
        due("SIGN second", Boxes.join(Boxes.sign(), Boxes.sign()), WRONG, 12);
        due("HEAD second", Boxes.join(Boxes.sign(), HEAD), WRONG, 12);
        due("STREAM second", Boxes.join(Boxes.sign(), STREAM), WRONG, 12);
        due("SIGN third", Boxes.file(Boxes.sign()), WRONG, 32);
        due("KIND third", Boxes.file(Boxes.kind()), WRONG, 32);
        due("SIGN behind", Boxes.file(HEAD, STREAM, Boxes.box(Boxes.SIGN)), WRONG, BEHIND_AT);
        due("KIND behind", Boxes.file(HEAD, STREAM, Boxes.box(Boxes.KIND)), WRONG, BEHIND_AT);
        due("a second HEAD behind STREAM", Boxes.file(HEAD, STREAM, HEAD), WRONG, BEHIND_AT);
        int[] outer = {Boxes.SIGN, Boxes.KIND, Boxes.HEAD, Boxes.STREAM};
        for (int name : outer) {
            dueThird("in HEAD: " + name, WRONG, Boxes.box(name));
            due("in RESOLUTION: " + name, Boxes.file(Boxes.headWith(
                    Boxes.box(Boxes.RESOLUTION, Boxes.box(name))), STREAM), WRONG, THIRD_AT + 8);
            due("first in HEAD: " + name, Boxes.file(Boxes.head(Boxes.box(name))), WRONG, SIZE_AT);
        }
        due("COLOUR first in HEAD", Boxes.file(Boxes.head(Boxes.colour(16))), WRONG, SIZE_AT);
        due("another first in HEAD", Boxes.file(Boxes.head(Boxes.box(0))), WRONG, SIZE_AT);
        due("RESOLUTION first in HEAD", Boxes.file(Boxes.head(Boxes.box(Boxes.RESOLUTION))), WRONG, SIZE_AT);
        dueThird("a second SIZE", WRONG, Boxes.size(5, 6, 3, 7));
        due("SIZE behind SIZE", Boxes.file(Boxes.head(Boxes.size(5, 6, 3, 7), Boxes.box(Boxes.SIZE))), WRONG, SECOND_AT);
        dueThird("BITS", WRONG, Boxes.box(Boxes.BITS, Boxes.bytes(7, 7, 7)));
        byte[] map = Boxes.box(Boxes.MAP, Boxes.bytes(0, 0, 1, 0));
        dueThird("MAP ahead of PALETTE", WRONG, map, Boxes.palette(1, 1, 7, 0));
        dueThird("MAP alone", WRONG, map);
    }

    private static void lengthOfContent() {
        due("SIGN of 3", Boxes.box(Boxes.SIGN, Boxes.bytes(1, 2, 3)), LENGTH, 0);
        due("SIGN of 5", Boxes.box(Boxes.SIGN, Boxes.bytes(0x0D, 0x0A, 0x87, 0x0A, 0)), LENGTH, 0);
        for (int bytes : new int[] {0, 4, 8, 11, 13, 14, 15, 17}) {
            due("KIND of " + bytes, Boxes.join(Boxes.sign(), Boxes.box(Boxes.KIND, new byte[bytes])), LENGTH, 12);
        }
        for (int bytes : new int[] {0, 13, 15}) {
            due("SIZE of " + bytes, Boxes.file(Boxes.head(Boxes.box(Boxes.SIZE, new byte[bytes]))), LENGTH, SIZE_AT);
        }
        for (int bytes : new int[] {0, 2, 4}) {
            due("BITS of " + bytes, Boxes.file(Boxes.head(Boxes.size(5, 6, 3, 255),
                    Boxes.box(Boxes.BITS, new byte[bytes]))), LENGTH, SECOND_AT);
        }
        for (int method = 0; method < 4; method++) {
            dueThird("COLOUR of 3", LENGTH, Boxes.box(Boxes.COLOUR, Boxes.bytes(method, 0, 0)));
        }
        dueThird("COLOUR of 0", LENGTH, Boxes.box(Boxes.COLOUR));
        dueThird("COLOUR of 6", LENGTH, Boxes.box(Boxes.COLOUR, Boxes.bytes(1, 0, 0, 0, 0, 16)));
        dueThird("COLOUR of 8", LENGTH, Boxes.box(Boxes.COLOUR, Boxes.bytes(1, 0, 0, 0, 0, 0, 16, 0)));
        lengthOfPalette();
        for (int bytes : new int[] {0, 1, 3, 5, 6, 7}) {
            due("MAP of " + bytes, Boxes.file(Boxes.headWith(Boxes.palette(1, 1, 7, 0),
                    Boxes.box(Boxes.MAP, new byte[bytes]))), LENGTH, THIRD_AT + 13);
        }
        for (int bytes : new int[] {0, 1}) {
            dueThird("CHANNELS of " + bytes, LENGTH, Boxes.box(Boxes.CHANNELS, new byte[bytes]));
        }
        dueThird("CHANNELS of no line", LENGTH, Boxes.box(Boxes.CHANNELS, Boxes.u2(0, 0, 0, 0)));
        dueThird("CHANNELS of two lines", LENGTH, Boxes.box(Boxes.CHANNELS, Boxes.u2(2, 0, 0, 0)));
        dueThird("CHANNELS cut", LENGTH, Boxes.box(Boxes.CHANNELS, Boxes.u2(1, 0, 0), Boxes.bytes(0)));
        for (int bytes : new int[] {0, 9, 11}) {
            due("CAPTURE of " + bytes, Boxes.file(Boxes.headWith(Boxes.box(Boxes.RESOLUTION,
                    Boxes.box(Boxes.CAPTURE, new byte[bytes])))), LENGTH, THIRD_AT + 8);
            due("DISPLAY of " + bytes, Boxes.file(Boxes.headWith(Boxes.box(Boxes.RESOLUTION,
                    Boxes.box(Boxes.DISPLAY, new byte[bytes])))), LENGTH, THIRD_AT + 8);
        }
    }

    private static void lengthOfPalette() {
        dueThird("PALETTE of 0", LENGTH, Boxes.box(Boxes.PALETTE));
        dueThird("PALETTE of 2", LENGTH, Boxes.box(Boxes.PALETTE, Boxes.u2(1)));
        dueThird("PALETTE of 3", LENGTH, Boxes.palette(1, 1));
        dueThird("PALETTE without numbers", LENGTH, Boxes.palette(1, 1, 7));
        dueThird("PALETTE with too many", LENGTH, Boxes.palette(1, 1, 7, 0, 0));
        dueThird("PALETTE with a cut one", LENGTH, Boxes.palette(2, 1, 8, 0, 0, 0));
        dueThird("PALETTE of 38 bits in 4 bytes", LENGTH, Boxes.palette(1, 1, 37, 0, 0, 0, 0));
        dueThird("PALETTE of 128 bits in 15 bytes", LENGTH, Boxes.palette(1, 1, 255, 0, 0, 0, 0, 0, 0, 0, 0, 0, 0, 0, 0, 0, 0, 0));
        dueThird("no entries, more bytes", LENGTH, Boxes.palette(0, 1, 7, 0));
        dueThird("no columns, more bytes", LENGTH, Boxes.palette(1, 0, 0));
    }

    private static void twice() {
        due("HEAD", Boxes.file(HEAD, HEAD, STREAM), TWICE, 77);
        due("HEAD, though with nothing in it", Boxes.file(HEAD, Boxes.box(Boxes.HEAD), STREAM), TWICE, 77);
        byte[] bits = Boxes.box(Boxes.BITS, Boxes.bytes(1, 2, 3));
        due("BITS", Boxes.file(Boxes.head(Boxes.size(5, 6, 3, 255), bits, bits)), TWICE, SECOND_AT + 11);
        byte[] palette = Boxes.palette(1, 1, 7, 0);
        byte[] map = Boxes.box(Boxes.MAP, Boxes.bytes(0, 0, 1, 0));
        byte[] channels = Boxes.box(Boxes.CHANNELS, Boxes.u2(0));
        byte[] resolution = Boxes.box(Boxes.RESOLUTION);
        due("PALETTE", Boxes.file(Boxes.headWith(palette, palette)), TWICE, THIRD_AT + 13);
        due("PALETTE behind MAP", Boxes.file(Boxes.headWith(palette, map, palette)), TWICE, THIRD_AT + 25);
        due("MAP", Boxes.file(Boxes.headWith(palette, map, map)), TWICE, THIRD_AT + 25);
        due("CHANNELS", Boxes.file(Boxes.headWith(channels, channels)), TWICE, THIRD_AT + 10);
        due("RESOLUTION", Boxes.file(Boxes.headWith(resolution, channels, resolution)), TWICE, THIRD_AT + 18);
        for (int name : new int[] {Boxes.CAPTURE, Boxes.DISPLAY}) {
            byte[] ratio = Boxes.box(name, Boxes.u2(1, 1, 1, 1, 0));
            due("ratio", Boxes.file(Boxes.headWith(Boxes.box(Boxes.RESOLUTION, ratio, ratio))), TWICE, THIRD_AT + 26);
        }
    }

    private static void great() {
        due("17 components", Boxes.file(Boxes.head(Boxes.size(5, 6, 17, 7))), GREAT, SIZE_AT);
        due("65535 components", Boxes.file(Boxes.head(Boxes.size(5, 6, 65535, 7))), GREAT, SIZE_AT);
        due("high 2^31", Boxes.file(Boxes.head(Boxes.size(1L << 31, 6, 3, 7))), GREAT, SIZE_AT);
        due("wide 2^32 - 1", Boxes.file(Boxes.head(Boxes.size(5, 0xFFFFFFFFL, 3, 7))), GREAT, SIZE_AT);
        byte[] palette = Boxes.palette(1, 1, 7, 0);
        byte[] most = Boxes.box(Boxes.MAP, new byte[64]);
        dueReadThird("16 channels in MAP", palette, most);
        due("17 channels in MAP", Boxes.file(Boxes.headWith(palette,
                Boxes.box(Boxes.MAP, new byte[68]))), GREAT, THIRD_AT + 13);
        byte[] lines = Boxes.u2(0);
        for (int k = 0; k < 16; k++) {
            lines = Boxes.join(lines, Boxes.u2(k, 0, 0));
        }
        lines[1] = 16;
        dueReadThird("16 lines", Boxes.box(Boxes.CHANNELS, lines), palette, most);
        lines = Boxes.join(lines, Boxes.u2(16, 0, 0));
        lines[1] = 17;
        dueThird("17 lines", GREAT, Boxes.box(Boxes.CHANNELS, lines));
        dueThird("9 columns", GREAT, Boxes.palette(1, 9, 0, 0, 0, 0, 0, 0, 0, 0, 0, 1, 1, 1, 1, 1, 1, 1, 1, 1));
        dueThird("9 columns, no entries", GREAT, Boxes.palette(0, 9, 0, 0, 0, 0, 0, 0, 0, 0, 0));
        FileBoxes x = withLongProfile(1025);
        check.due("a profile of 1025", x.scan(), GREAT);
        check.due("its place", x.place(), SECOND_AT);
    }

    /** A palette of one column of one bit each, so that it has as many numbers as bytes. */
    private static void dueLongPalette(int entries, int number) {
        FileBoxes x = Boxes.put(Boxes.join(Boxes.sign(), Boxes.kind(),
                Boxes.u4(8 + 22 + 15 + 12 + entries + 12, Boxes.HEAD), Boxes.size(5, 6, 3, 7), Boxes.colour(16),
                Boxes.u4(12 + entries, Boxes.PALETTE), Boxes.u2(entries), Boxes.bytes(1, 0)));
        fill(x, entries);
        Boxes.putInto(x, Boxes.join(Boxes.box(Boxes.MAP, Boxes.bytes(0, 0, 1, 0)), STREAM));
        check.due(entries + " entries: scan()", x.scan(), number);
        check.due(entries + " entries: place()", x.place(), number == 0 ? -1 : THIRD_AT);
    }

    private static void greatByLength() {
        dueLongPalette(1024, 0);
        dueLongPalette(1025, VALUE);
        dueLongPalette(4096, VALUE);
        dueLongPalette(4097, GREAT);
        FileBoxes x = Boxes.put(Boxes.join(Boxes.sign(), Boxes.kind(),
                Boxes.u4(8 + 22 + 15 + 2011, Boxes.HEAD), Boxes.size(5, 6, 3, 7), Boxes.colour(16),
                Boxes.u4(2011, Boxes.COLOUR), Boxes.bytes(2, 0, 0)));
        fill(x, 2000);
        Boxes.putInto(x, STREAM);
        check.due("a long profile that doesn't count", x.scan(), 0);
        check.due("colours count", x.get(5, 0), 16);
    }

    private static void valueInFrontAndSize() {
        due("SIGN", Boxes.box(Boxes.SIGN, Boxes.u4(0x0D0A870B)), VALUE, 0);
        due("KIND", Boxes.join(Boxes.sign(), Boxes.box(Boxes.KIND, Boxes.u4(0x6A703220, 0x6A703220, 0))), VALUE, 12);
        due("KIND by halves", Boxes.join(Boxes.sign(), Boxes.box(Boxes.KIND,
                Boxes.u4(0, 0, 0x00006A70, 0x32200000))), VALUE, 12);
        byte[] good = Boxes.join(Boxes.sign(), Boxes.box(Boxes.KIND, Boxes.u4(7, 8, 9, 10, 0x6A703220)), HEAD, STREAM);
        dueRead("KIND with the last name", good);
        int[][] sizes = {{0, 6, 3, 7}, {5, 0, 3, 7}, {5, 6, 0, 7}, {5, 6, 3, 38}, {5, 6, 3, 127}, {5, 6, 3, 166}, {5, 6, 3, 254}};
        for (int[] s : sizes) {
            due("SIZE " + java.util.Arrays.toString(s), Boxes.file(Boxes.head(
                    Boxes.size(s[0], s[1], s[2], s[3]), Boxes.colour(16)), STREAM), VALUE, SIZE_AT);
        }
        int[][] ends = {{7, 6, 0, 0}, {7, 8, 0, 0}, {7, 0, 0, 0}, {7, 7, 2, 0}, {7, 7, 0, 2}, {7, 7, 255, 0}, {7, 7, 0, 255}};
        for (int[] e : ends) {
            due("SIZE with " + java.util.Arrays.toString(e), Boxes.file(Boxes.head(Boxes.box(Boxes.SIZE,
                    Boxes.u4(5, 6), Boxes.u2(3), Boxes.bytes(e)), Boxes.colour(16)), STREAM), VALUE, SIZE_AT);
        }
        for (int bits : new int[] {0, 37, 128, 165}) {
            dueRead("bits " + bits, Boxes.file(Boxes.head(Boxes.size(1, 1, 16, bits), Boxes.colour(16)), STREAM));
        }
    }

    private static void valueInHead() {
        for (int bits : new int[] {38, 127, 166, 255}) {
            due("BITS of " + bits, Boxes.file(Boxes.head(Boxes.size(5, 6, 2, 255),
                    Boxes.box(Boxes.BITS, Boxes.bytes(7, bits)), Boxes.colour(16))), VALUE, SECOND_AT);
        }
        for (int colours : new int[] {0, 15, 19, 16 << 8}) {
            dueThird("colours that don't count", VALUE, Boxes.colour(colours));
            due("colours", Boxes.file(headOfColours(Boxes.colour(colours))), VALUE, SECOND_AT);
        }
        dueThird("no entries", VALUE, Boxes.palette(0, 1, 7));
        dueThird("no columns", VALUE, Boxes.palette(1, 0));
        dueThird("39 bits", VALUE, Boxes.palette(1, 1, 38, 0, 0, 0, 0, 0));
        dueThird("39 bits and the sign", VALUE, Boxes.palette(1, 2, 7, 166, 0, 0, 0, 0, 0, 0));
        dueThird("128 bits", VALUE, Boxes.palette(1, 1, 255, 0, 0, 0, 0, 0, 0, 0, 0, 0, 0, 0, 0, 0, 0, 0, 0));
        int[][] maps = {{0, 3, 0, 0}, {1, 0, 0, 0}, {0, 0, 2, 0}, {0, 0, 255, 0}, {0, 0, 1, 2}, {0, 0, 0, 1}};
        for (int[] m : maps) {
            due("MAP " + java.util.Arrays.toString(m), Boxes.file(Boxes.headWith(Boxes.palette(1, 2, 7, 7, 0, 0),
                    Boxes.box(Boxes.MAP, Boxes.bytes(0, 0, 1, 1), Boxes.bytes(m)))), VALUE, THIRD_AT + 15);
        }
        for (int type : new int[] {3, 256, 65534}) {
            dueThird("type " + type, VALUE, Boxes.box(Boxes.CHANNELS, Boxes.u2(1, 0, type, 0)));
        }
        for (int part = 0; part < 4; part++) {
            int[] parts = {1, 1, 1, 1, 0};
            parts[part] = 0;
            due("CAPTURE", Boxes.file(Boxes.headWith(Boxes.box(Boxes.RESOLUTION,
                    Boxes.box(Boxes.CAPTURE, Boxes.u2(parts))))), VALUE, THIRD_AT + 8);
            due("DISPLAY", Boxes.file(Boxes.headWith(Boxes.box(Boxes.RESOLUTION,
                    Boxes.box(Boxes.DISPLAY, Boxes.u2(parts))))), VALUE, THIRD_AT + 8);
        }
        endOfHead();
    }

    private static void endOfHead() {
        byte[] three = Boxes.box(Boxes.CHANNELS, Boxes.u2(1, 3, 0, 0));
        due("channel 3 of three", Boxes.file(Boxes.headWith(three), STREAM), VALUE, HEAD_AT);
        due("channel 65535", Boxes.file(Boxes.headWith(
                Boxes.box(Boxes.CHANNELS, Boxes.u2(1, 65535, 0, 0))), STREAM), VALUE, HEAD_AT);
        due("channel 1 twice", Boxes.file(Boxes.headWith(
                Boxes.box(Boxes.CHANNELS, Boxes.u2(3, 1, 0, 0, 0, 0, 0, 1, 0, 0))), STREAM), VALUE, HEAD_AT);
        byte[] palette = Boxes.palette(1, 1, 7, 0);
        byte[] four = Boxes.box(Boxes.MAP, new byte[16]);
        dueReadThird("channel 3 of four in MAP", three, palette, four);
        due("channel 1 of one in MAP", Boxes.file(Boxes.headWith(palette, Boxes.box(Boxes.MAP, new byte[4]),
                Boxes.box(Boxes.CHANNELS, Boxes.u2(1, 1, 0, 0))), STREAM), VALUE, HEAD_AT);
        due("6 ahead of 5", Boxes.file(Boxes.headWith(three, palette), STREAM), MISSING, HEAD_AT);
    }

    private static void missing() {
        due("HEAD", Boxes.file(STREAM, HEAD), MISSING, 32);
        due("HEAD behind another", Boxes.file(Boxes.box(0), STREAM), MISSING, 40);
        due("all", Boxes.file(), MISSING, 32);
        due("all but another", Boxes.file(Boxes.box(0)), MISSING, 40);
        due("STREAM", Boxes.file(HEAD), MISSING, 77);
        due("all in HEAD", Boxes.file(Boxes.head(), STREAM), MISSING, HEAD_AT);
        due("COLOUR", Boxes.file(Boxes.head(Boxes.size(5, 6, 3, 7)), STREAM), MISSING, HEAD_AT);
        due("BITS", Boxes.file(Boxes.head(Boxes.size(5, 6, 3, 255), Boxes.colour(16)), STREAM), MISSING, HEAD_AT);
        due("MAP", Boxes.file(Boxes.headWith(Boxes.palette(1, 1, 7, 0)), STREAM), MISSING, HEAD_AT);
        due("HEAD is not the first other", Boxes.file(Boxes.box(0), Boxes.head(), STREAM), MISSING, 40);
    }

    /** Of several things wrong with one box the first of the list is told. */
    private static void order() {
        due("CUT ahead of WRONG", Boxes.boxOfLength(99, 0), CUT, 0);
        due("LENGTH of a box ahead of WRONG", Boxes.boxOfLength(7, 0), LENGTH, 0);
        due("WRONG ahead of LENGTH of content", Boxes.box(Boxes.KIND), WRONG, 0);
        dueThird("BITS: WRONG ahead of LENGTH", WRONG, Boxes.box(Boxes.BITS));
        dueThird("MAP: WRONG ahead of LENGTH", WRONG, Boxes.box(Boxes.MAP));
        byte[] palette = Boxes.palette(1, 1, 7, 0);
        due("LENGTH ahead of TWICE", Boxes.file(Boxes.headWith(palette, Boxes.box(Boxes.PALETTE))), LENGTH, THIRD_AT + 13);
        due("TWICE ahead of GREAT", Boxes.file(Boxes.headWith(palette,
                Boxes.palette(0, 9, 0, 0, 0, 0, 0, 0, 0, 0, 0))), TWICE, THIRD_AT + 13);
        due("TWICE ahead of VALUE", Boxes.file(Boxes.headWith(palette, Boxes.palette(1, 0))), TWICE, THIRD_AT + 13);
        due("LENGTH ahead of GREAT", Boxes.file(Boxes.head(Boxes.box(Boxes.SIZE,
                Boxes.u4(-1, -1, -1)))), LENGTH, SIZE_AT);
        dueThird("LENGTH ahead of GREAT in PALETTE", LENGTH, Boxes.palette(65535, 255));
        due("GREAT ahead of VALUE", Boxes.file(Boxes.head(Boxes.size(0, 6, 17, 38))), GREAT, SIZE_AT);
        dueThird("GREAT ahead of VALUE in PALETTE", GREAT, Boxes.palette(0, 9, 0, 0, 0, 0, 0, 0, 0, 0, 99));
        due("a box in HEAD ahead of its end", Boxes.file(Boxes.head(Boxes.size(5, 6, 3, 255), palette,
                Boxes.boxOfLength(7, 0)), STREAM), LENGTH, SECOND_AT + 13);
        due("the end of HEAD ahead of what is behind", Boxes.file(Boxes.head(), Boxes.bytes(1)), MISSING, HEAD_AT);
    }
}
