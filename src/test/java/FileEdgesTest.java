import java.util.Arrays;

/** Promises 16 to 20: for each sentence that names a boundary case a test of its own. */
public final class FileEdgesTest {
    private static final Check check = new Check();
    private static final int LEAST = Integer.MIN_VALUE;
    private static final int MOST = Integer.MAX_VALUE;
    /** What write() puts for the plan of plain(): 77 bytes up to the beginning of STREAM, which has 8. */
    private static final int PLAIN_LENGTH = 85;

    public static void main(String[] args) {
        bytesOfFile();
        whatIsWritten();
        whatIsNot();
        check.end();
    }

    private static void bytesOfFile() {
        check.sentence("What it is", "An object is used for at most 512 calls after it has been made", FileEdgesTest::lastCall);
        check.sentence("Terms", "A FILE is a row of bytes, at most 65536.", FileEdgesTest::fullFile);
        check.sentence("Terms", "U1, U2, U4, U8 are numbers of so many bytes, the highest first.", FileEdgesTest::highestFirst);
        check.sentence("16", "The file is empty, and not scanned.", FileEdgesTest::cleared);
        check.sentence("17", "One more byte: how many.", FileEdgesTest::putGrows);
        check.sentence("17", "IllegalArgumentException if it is not 0 .. 255", FileEdgesTest::putNoByte);
        check.sentence("17", "UnsupportedOperationException if there are 65536.", FileEdgesTest::putIntoFull);
        check.sentence("17", "The file is not scanned any more.", FileEdgesTest::putUnscans);
        check.sentence("18", "Byte k; how many there are if k is -1.", FileEdgesTest::bytesAsked);
        check.sentence("18", "NoSuchElementException for others.", FileEdgesTest::noByteAsked);
        check.sentence("19", "Byte k (0 or above) becomes b", FileEdgesTest::spoilFirstAndLast);
        check.sentence("19", "(its lowest eight bits)", FileEdgesTest::spoilLowestBits);
        check.sentence("19", "NoSuchElementException if there is none such.", FileEdgesTest::spoilNone);
        check.sentence("19", "The file is not scanned any more.", FileEdgesTest::spoilUnscans);
    }

    private static void whatIsWritten() {
        check.sentence("20", "Puts a file's boxes behind what is there", FileEdgesTest::writeBehind);
        check.sentence("20", "HEAD with SIZE (bits 255 if components have not all the same), BITS (then)", FileEdgesTest::writeBits);
        check.sentence("20", "COLOUR (the two any are 0)", FileEdgesTest::writeColour);
        check.sentence("20", "PALETTE and MAP (if there is a palette)", FileEdgesTest::writePalette);
        check.sentence("Terms", "in as many bytes as its bits (one more than told) need", FileEdgesTest::writeWidths);
        check.sentence("Terms", "its lowest bits (in reading, with the sign if it is signed), those above 0", FileEdgesTest::writeLowest);
        check.sentence("8", "write() writes the lowest ones)", FileEdgesTest::writeLowestOfNarrowed);
        check.sentence("20", "CHANNELS (if lines were told)", FileEdgesTest::writeLines);
        check.sentence("20", "RESOLUTION (with CAPTURE, DISPLAY as they were told, if one was)", FileEdgesTest::writeResolution);
        check.sentence("Terms", "U1 and U1 powers (-128 .. 127, as one byte)", FileEdgesTest::writePowers);
        check.sentence("20", "and the beginning of STREAM for so many bytes", FileEdgesTest::writeStream);
        check.sentence("20", "(far: its length as U8; never 0)", FileEdgesTest::writeFar);
        check.sentence("20", "how many bytes it put. The file is not scanned any more.", FileEdgesTest::writeUnscans);
    }

    private static void whatIsNot() {
        check.sentence("20", "IllegalArgumentException if bytes is not 0 .. 65536", FileEdgesTest::writeNoBytes);
        check.sentence("20", "IllegalStateException if no size", FileEdgesTest::writeUnsized);
        check.sentence("20", "or no colours were told", FileEdgesTest::writeUncoloured);
        check.sentence("20", "(or a profile has no byte)", FileEdgesTest::writeEmptyProfile);
        check.sentence("20", "a palette has no map", FileEdgesTest::writeUnmapped);
        check.sentence("20", "the map has a component that isn't there", FileEdgesTest::writeNoComponent);
        check.sentence("20", "or a line a channel that isn't there", FileEdgesTest::writeNoChannel);
        check.sentence("20", "UnsupportedOperationException if the file would have more than 65536", FileEdgesTest::writeIntoFull);
        check.sentence("20", "(without those bytes)", FileEdgesTest::writeWithoutThoseBytes);
    }

    private static FileBoxes plain() {
        FileBoxes x = new FileBoxes();
        x.size(5, 6, 3, 7, false, false);
        x.colours(16);
        return x;
    }

    private static FileBoxes scanned() {
        FileBoxes x = plain();
        x.write(0, false);
        check.due("scan", x.scan(), 0);
        check.due("a stream without bytes", x.stream(1), 0);
        return x;
    }

    private static void dueUnscanned(FileBoxes x) {
        check.isThrown("not scanned: stream(0)", Check.STATE, () -> x.stream(0));
        check.isThrown("not scanned: stream(1)", Check.STATE, () -> x.stream(1));
    }

    /** Puts so many bytes more: by wide palettes, narrow ones and bytes, so that calls are few. */
    static void fill(FileBoxes x, int bytes) {
        int left = bytes;
        while (left >= 113) {
            int entries = left >= 5 * 1024 + 108 ? 1024 : left >= 1024 + 108 ? (left - 109) / 5 : left - 109;
            x.palette(Math.min(1024, entries), 1);
            x.column(0, left >= 1024 + 108 ? 37 : 7);
            x.map(0, 0, 0);
            left -= x.write(0, false);
        }
        x.palette(0, 1);
        for (int k = 0; k < left; k++) {
            x.put(7);
        }
    }

    private static FileBoxes withRoomFor(int bytes) {
        FileBoxes x = plain();
        fill(x, 65536 - bytes);
        check.due("filled", x.at(-1), 65536 - bytes);
        return x;
    }

    private static void dueFile(FileBoxes x, byte[] file) {
        int count = x.at(-1);
        check.due("bytes", count, file.length);
        for (int k = 0; k < file.length && k < count; k++) {
            check.due("byte " + k, x.at(k), file[k] & 255);
        }
    }

    /** What the plan writes is this HEAD with an empty STREAM. */
    private static void dueHead(FileBoxes x, byte[] head) {
        x.clear();
        x.write(0, false);
        dueFile(x, Boxes.file(head, Boxes.stream()));
    }

    private static void lastCall() {
        byte[] file = Boxes.file(Boxes.headWith(), Boxes.stream(1, 2));
        FileBoxes x = new FileBoxes();
        for (int k = 0; k < 511 - file.length; k++) {
            x.place();
        }
        Boxes.putInto(x, file);
        check.due("scan() as call 512", x.scan(), 0);
        FileBoxes y = new FileBoxes();
        for (int k = 0; k < 511; k++) {
            y.put(k & 255);
        }
        check.due("put() as call 512", y.put(9), 512);
    }

    private static void fullFile() {
        int bytes = 65536 - PLAIN_LENGTH;
        FileBoxes x = plain();
        x.write(bytes, false);
        fill(x, bytes);
        check.due("bytes", x.at(-1), 65536);
        check.due("scan()", x.scan(), 0);
        check.due("stream(0)", x.stream(0), PLAIN_LENGTH);
        check.due("stream(1)", x.stream(1), bytes);
        check.isThrown("put", Check.UNSUPPORTED, () -> x.put(0));
        check.due("still scanned", x.stream(1), bytes);
    }

    private static void highestFirst() {
        FileBoxes x = new FileBoxes();
        x.size(0x01020304, 0x7FFEFDFC, 16, 7, false, false);
        x.colours(16);
        x.channel(15, 65535, 0x8001);
        check.due("write", x.write(65536, true), PLAIN_LENGTH + 16 + 8);
        dueFile(x, Boxes.file(Boxes.head(
                Boxes.box(Boxes.SIZE, Boxes.bytes(1, 2, 3, 4, 0x7F, 0xFE, 0xFD, 0xFC, 0, 16, 7, 7, 0, 0)), Boxes.colour(16),
                Boxes.box(Boxes.CHANNELS, Boxes.bytes(0, 1, 0, 15, 255, 255, 0x80, 1))),
                Boxes.u4(1, Boxes.STREAM), Boxes.bytes(0, 0, 0, 0, 0, 1, 0, 16)));
        x.clear();
        x.write(0, false);
        x.plan();
        check.due("scan", x.scan(), 0);
        check.due("high", x.get(0, 0), 0x01020304);
        check.due("wide", x.get(1, 0), 0x7FFEFDFC);
        check.due("to", x.get(28, 0), 0x8001);
    }

    private static void cleared() {
        FileBoxes x = scanned();
        x.clear();
        check.due("at(-1)", x.at(-1), 0);
        check.isThrown("at(0)", Check.NONE, () -> x.at(0));
        dueUnscanned(x);
        check.due("the plan stays", x.get(0, 0), 5);
        x.clear();
        check.due("an empty one", x.at(-1), 0);
        FileBoxes full = withRoomFor(0);
        full.clear();
        check.due("a full one", full.at(-1), 0);
        check.due("takes bytes again", full.put(200), 1);
        check.due("the first one", full.at(0), 200);
        check.isThrown("and no other", Check.NONE, () -> full.at(1));
    }

    private static void putGrows() {
        FileBoxes x = new FileBoxes();
        for (int k = 1; k <= 150; k++) {
            check.due("put", x.put(k), k);
        }
        for (int k = 0; k < 150; k++) {
            check.due("at(" + k + ")", x.at(k), k + 1);
        }
    }

    private static void putNoByte() {
        FileBoxes x = scanned();
        for (int b : new int[] {-1, 256, -128, 511, LEAST, MOST}) {
            check.isThrown("put(" + b + ")", Check.ARGUMENT, () -> x.put(b));
        }
        check.due("no byte came", x.at(-1), PLAIN_LENGTH);
        check.due("still scanned", x.stream(1), 0);
        check.due("put(0)", x.put(0), PLAIN_LENGTH + 1);
        check.due("put(255)", x.put(255), PLAIN_LENGTH + 2);
        check.due("0", x.at(PLAIN_LENGTH), 0);
        check.due("255", x.at(PLAIN_LENGTH + 1), 255);
    }

    private static void putIntoFull() {
        FileBoxes x = withRoomFor(2);
        check.due("one", x.put(11), 65535);
        check.due("the last one", x.put(12), 65536);
        check.isThrown("one more", Check.UNSUPPORTED, () -> x.put(13));
        check.isThrown("one more that is none", Check.ARGUMENT, () -> x.put(256));
        check.due("as many", x.at(-1), 65536);
        check.due("the last one stays", x.at(65535), 12);
    }

    private static void putUnscans() {
        FileBoxes x = scanned();
        x.put(0);
        dueUnscanned(x);
        check.due("cut now", x.scan(), 1);
        check.due("behind STREAM", x.place(), PLAIN_LENGTH);
    }

    private static void bytesAsked() {
        FileBoxes x = new FileBoxes();
        check.due("none", x.at(-1), 0);
        x.put(255);
        check.due("one", x.at(-1), 1);
        check.due("the first", x.at(0), 255);
        FileBoxes full = withRoomFor(1);
        full.put(128);
        check.due("all", full.at(-1), 65536);
        check.due("the last", full.at(65535), 128);
    }

    private static void noByteAsked() {
        FileBoxes x = new FileBoxes();
        check.isThrown("of none", Check.NONE, () -> x.at(0));
        x.put(1);
        for (int k : new int[] {1, 2, -2, 65535, 65536, LEAST, MOST}) {
            check.isThrown("at(" + k + ")", Check.NONE, () -> x.at(k));
        }
        FileBoxes full = withRoomFor(0);
        check.isThrown("behind a full one", Check.NONE, () -> full.at(65536));
    }

    private static void spoilFirstAndLast() {
        FileBoxes x = scanned();
        x.spoil(0, 99);
        x.spoil(PLAIN_LENGTH - 1, 98);
        check.due("first", x.at(0), 99);
        check.due("last", x.at(PLAIN_LENGTH - 1), 98);
        check.due("as many", x.at(-1), PLAIN_LENGTH);
        FileBoxes full = withRoomFor(0);
        full.spoil(65535, 97);
        check.due("last of a full one", full.at(65535), 97);
    }

    private static void spoilLowestBits() {
        FileBoxes x = new FileBoxes();
        x.put(1);
        int[] told = {0, 255, 256, 257, -1, -256, -255, LEAST, MOST, LEAST + 128};
        int[] due = {0, 255, 0, 1, 255, 0, 1, 0, 255, 128};
        for (int k = 0; k < told.length; k++) {
            x.spoil(0, told[k]);
            check.due("spoil(0, " + told[k] + ")", x.at(0), due[k]);
        }
    }

    private static void spoilNone() {
        FileBoxes none = new FileBoxes();
        check.isThrown("of none", Check.NONE, () -> none.spoil(0, 0));
        FileBoxes x = scanned();
        for (int k : new int[] {-1, -2, PLAIN_LENGTH, 65535, 65536, LEAST, MOST}) {
            check.isThrown("spoil(" + k + ", 0)", Check.NONE, () -> x.spoil(k, 0));
        }
        check.due("still scanned", x.stream(1), 0);
        FileBoxes full = withRoomFor(0);
        check.isThrown("behind a full one", Check.NONE, () -> full.spoil(65536, 0));
    }

    private static void spoilUnscans() {
        FileBoxes x = scanned();
        x.spoil(0, x.at(0));
        dueUnscanned(x);
        check.due("though nothing is other", x.scan(), 0);
    }

    private static void writeBehind() {
        FileBoxes x = plain();
        x.put(1);
        x.put(2);
        check.due("write", x.write(0, false), PLAIN_LENGTH);
        dueFile(x, Boxes.join(Boxes.bytes(1, 2), Boxes.file(Boxes.headWith(), Boxes.stream())));
        check.due("write again", x.write(0, false), PLAIN_LENGTH);
        check.due("behind it", x.at(-1), 2 + 2 * PLAIN_LENGTH);
        check.due("its last byte", x.at(2 * PLAIN_LENGTH + 1), Boxes.STREAM & 255);
    }

    private static void writeBits() {
        FileBoxes x = plain();
        dueHead(x, Boxes.headWith());
        x.bits(2, 135);
        dueHead(x, Boxes.head(Boxes.size(5, 6, 3, 255), Boxes.box(Boxes.BITS, Boxes.bytes(7, 7, 135)), Boxes.colour(16)));
        x.bits(2, 7);
        dueHead(x, Boxes.headWith());
        x.size(MOST, 1, 1, 0, true, false);
        x.bits(0, 165);
        dueHead(x, Boxes.head(Boxes.box(Boxes.SIZE, Boxes.u4(MOST, 1), Boxes.u2(1), Boxes.bytes(165, 7, 1, 0)), Boxes.colour(16)));
        // Of each of two and of three, one alone is other.
        for (int components = 2; components <= 3; components++) {
            for (int c = 0; c < components; c++) {
                FileBoxes y = new FileBoxes();
                y.size(1, MOST, components, 7, false, true);
                y.colours(16);
                y.bits(c, 6);
                byte[] bits = new byte[components];
                Arrays.fill(bits, (byte) 7);
                bits[c] = 6;
                byte[] size = Boxes.box(Boxes.SIZE, Boxes.u4(1, MOST), Boxes.u2(components), Boxes.bytes(255, 7, 0, 1));
                dueHead(y, Boxes.head(size, Boxes.box(Boxes.BITS, bits), Boxes.colour(16)));
            }
        }
    }

    private static void writeColour() {
        FileBoxes x = plain();
        byte[] size = Boxes.size(5, 6, 3, 7);
        for (int colours = 16; colours <= 18; colours++) {
            x.colours(colours);
            dueHead(x, Boxes.head(size, Boxes.box(Boxes.COLOUR, Boxes.bytes(1, 0, 0, 0, 0, 0, colours))));
        }
        FileBoxes y = plain();
        y.colours(0);
        y.profile(200);
        dueHead(y, Boxes.head(size, Boxes.box(Boxes.COLOUR, Boxes.bytes(2, 0, 0, 200))));
        FileBoxes full = ScanTest.withLongProfile(1024);
        check.due("scan of a full profile", full.scan(), 0);
        int length = full.at(-1);
        full.clear();
        check.due("a full profile", full.write(2, false) + 2, length);
        check.due("and is read again", full.put(1) + full.put(2), 2 * length - 1);
        check.due("as it was", full.scan(), 0);
        check.due("with all of it", full.get(6, 0), 1024);
    }

    private static void writePalette() {
        FileBoxes x = plain();
        x.palette(1, 1);
        x.entry(0, 0, 200);
        x.map(2, 1, 0);
        dueHead(x, Boxes.headWith(Boxes.palette(1, 1, 7, 200), Boxes.box(Boxes.MAP, Boxes.bytes(0, 2, 1, 0))));
        x.palette(0, 1);
        dueHead(x, Boxes.headWith());
        x.palette(1, 8);
        for (int k = 0; k < 16; k++) {
            x.map(k % 3, 1, k % 8);
        }
        x.clear();
        check.due("a full map", x.write(0, false), PLAIN_LENGTH + 8 + 3 + 8 + 8 + 8 + 64);
        x.palette(1024, 4);
        x.map(0, 0, 0);
        x.clear();
        check.due("a full palette", x.write(0, false), PLAIN_LENGTH + 8 + 3 + 4 + 4096 + 12);
        check.due("is read again", x.scan(), 0);
        check.due("with all entries", x.get(7, 0), 1024);
    }

    private static void writeWidths() {
        int[] told = {0, 7, 8, 15, 16, 23, 24, 31, 32, 37};
        int[] bytes = {1, 1, 2, 2, 3, 3, 4, 4, 5, 5};
        for (int k = 0; k < told.length; k++) {
            for (int sign = 0; sign <= 128; sign += 128) {
                FileBoxes x = plain();
                x.palette(2, 1);
                x.column(0, told[k] + sign);
                x.map(0, 0, 0);
                check.due("bits " + told[k], x.write(0, false), PLAIN_LENGTH + 12 + 2 * bytes[k] + 12);
            }
        }
    }

    private static byte[] headOfNumber(int bits, int... number) {
        return Boxes.headWith(Boxes.box(Boxes.PALETTE, Boxes.bytes(0, 1, 1, bits), Boxes.bytes(number)),
                Boxes.box(Boxes.MAP, Boxes.bytes(0, 0, 0, 0)));
    }

    private static void dueNumber(int bits, long v, int... number) {
        FileBoxes x = plain();
        x.palette(1, 1);
        x.column(0, bits);
        x.entry(0, 0, v);
        x.map(0, 0, 0);
        dueHead(x, headOfNumber(bits, number));
    }

    private static void writeLowest() {
        dueNumber(128, -1, 1);
        dueNumber(129, -2, 2);
        dueNumber(135, -128, 128);
        dueNumber(136, -1, 1, 255);
        dueNumber(136, -256, 1, 0);
        dueNumber(143, -32768, 128, 0);
        dueNumber(159, -1, 255, 255, 255, 255);
        dueNumber(160, -1, 1, 255, 255, 255, 255);
        dueNumber(165, -(1L << 37), 0x20, 0, 0, 0, 0);
        dueNumber(165, -1, 0x3F, 255, 255, 255, 255);
        dueNumber(37, (1L << 38) - 1, 0x3F, 255, 255, 255, 255);
        dueNumber(7, 255, 255);
        dueNumber(0, 1, 1);
    }

    private static void writeLowestOfNarrowed() {
        FileBoxes x = plain();
        x.palette(1, 1);
        x.column(0, 165);
        x.entry(0, 0, -2);
        x.map(0, 0, 0);
        x.column(0, 0);
        dueHead(x, headOfNumber(0, 0));
        x.column(0, 4);
        dueHead(x, headOfNumber(4, 0x1E));
        x.column(0, 128 + 8);
        check.due("the number stays", x.number(0, 0), -2);
        FileBoxes y = plain();
        y.palette(1, 1);
        y.column(0, 37);
        y.entry(0, 0, 0x3F12345678L);
        y.map(0, 0, 0);
        y.column(0, 140);
        dueHead(y, headOfNumber(140, 0x16, 0x78));
    }

    private static void writeLines() {
        FileBoxes x = plain();
        x.channel(2, 65535, 65535);
        dueHead(x, Boxes.headWith(Boxes.box(Boxes.CHANNELS, Boxes.u2(1, 2, 65535, 65535))));
        FileBoxes all = new FileBoxes();
        all.size(1, 1, 16, 7, false, false);
        all.colours(16);
        for (int k = 0; k < 16; k++) {
            all.channel(k, 0, 0);
        }
        check.due("all lines", all.write(0, false), PLAIN_LENGTH + 10 + 96);
        check.due("are read again", all.scan(), 0);
        check.due("all of them", all.get(10, 0), 16);
    }

    private static void writeResolution() {
        byte[] capture = Boxes.box(Boxes.CAPTURE, Boxes.u2(1, 2, 3, 4), Boxes.bytes(5, 6));
        byte[] display = Boxes.box(Boxes.DISPLAY, Boxes.u2(65535, 1, 65535, 1), Boxes.bytes(0, 0));
        FileBoxes x = plain();
        x.resolution(true, 65535, 1, 65535, 1, 0, 0);
        dueHead(x, Boxes.headWith(Boxes.box(Boxes.RESOLUTION, display)));
        FileBoxes y = plain();
        y.resolution(false, 1, 2, 3, 4, 5, 6);
        dueHead(y, Boxes.headWith(Boxes.box(Boxes.RESOLUTION, capture)));
        y.resolution(true, 65535, 1, 65535, 1, 0, 0);
        dueHead(y, Boxes.headWith(Boxes.box(Boxes.RESOLUTION, capture, display)));
        FileBoxes none = plain();
        none.resolution(false, 1, 1, 1, 1, 1, 1);
        none.resolution(false, 0, 0, 0, 0, 0, 0);
        dueHead(none, Boxes.headWith());
    }

    private static void writePowers() {
        FileBoxes x = plain();
        x.resolution(false, 1, 1, 1, 1, -128, 127);
        x.resolution(true, 1, 1, 1, 1, -1, 0);
        dueHead(x, Boxes.headWith(Boxes.box(Boxes.RESOLUTION,
                Boxes.box(Boxes.CAPTURE, Boxes.u2(1, 1, 1, 1), Boxes.bytes(128, 127)),
                Boxes.box(Boxes.DISPLAY, Boxes.u2(1, 1, 1, 1), Boxes.bytes(255, 0)))));
        check.due("are read again", x.scan(), 0);
        check.due("-128", x.get(34, 0), -128);
        check.due("127", x.get(35, 0), 127);
        check.due("-1", x.get(44, 0), -1);
    }

    private static void writeStream() {
        for (int bytes : new int[] {0, 1, 65535, 65536}) {
            FileBoxes x = plain();
            check.due("write", x.write(bytes, false), PLAIN_LENGTH);
            dueFile(x, Boxes.file(Boxes.headWith(), Boxes.u4(bytes + 8, Boxes.STREAM)));
        }
    }

    private static void writeFar() {
        for (int bytes : new int[] {0, 1, 65536}) {
            FileBoxes x = plain();
            check.due("write", x.write(bytes, true), PLAIN_LENGTH + 8);
            dueFile(x, Boxes.file(Boxes.headWith(), Boxes.u4(1, Boxes.STREAM), Boxes.number(bytes + 16, 8)));
        }
        FileBoxes x = plain();
        x.write(0, true);
        check.due("a far one without bytes", x.scan(), 0);
        check.due("its place", x.stream(0), PLAIN_LENGTH + 8);
        check.due("its bytes", x.stream(1), 0);
    }

    private static void writeUnscans() {
        FileBoxes x = scanned();
        check.due("write", x.write(0, true), PLAIN_LENGTH + 8);
        dueUnscanned(x);
        check.due("a second SIGN", x.scan(), 2);
        check.due("its place", x.place(), PLAIN_LENGTH);
    }

    private static void dueWriteThrows(FileBoxes x, Class<?> kind) {
        int before = x.at(-1);
        check.isThrown("write(0, false)", kind, () -> x.write(0, false));
        check.isThrown("write(0, true)", kind, () -> x.write(0, true));
        check.isThrown("write(65536, true)", kind, () -> x.write(65536, true));
        check.due("as many bytes", x.at(-1), before);
    }

    private static void writeNoBytes() {
        FileBoxes x = scanned();
        for (int bytes : new int[] {-1, 65537, -65536, LEAST, MOST}) {
            check.isThrown("write(" + bytes + ", false)", Check.ARGUMENT, () -> x.write(bytes, false));
            check.isThrown("write(" + bytes + ", true)", Check.ARGUMENT, () -> x.write(bytes, true));
        }
        check.due("as many bytes", x.at(-1), PLAIN_LENGTH);
        check.due("still scanned", x.stream(1), 0);
    }

    private static void writeUnsized() {
        FileBoxes x = new FileBoxes();
        x.colours(16);
        dueWriteThrows(x, Check.STATE);
        FileBoxes y = scanned();
        y.plan();
        y.colours(16);
        dueWriteThrows(y, Check.STATE);
        check.due("still scanned", y.stream(1), 0);
    }

    private static void writeUncoloured() {
        FileBoxes x = new FileBoxes();
        x.size(5, 6, 3, 7, false, false);
        dueWriteThrows(x, Check.STATE);
        x.colours(16);
        check.due("then told", x.write(0, false), PLAIN_LENGTH);
    }

    private static void writeEmptyProfile() {
        FileBoxes x = plain();
        x.colours(0);
        dueWriteThrows(x, Check.STATE);
        x.profile(0);
        check.due("with a byte", x.write(0, false), PLAIN_LENGTH - 3);
        x.colours(0);
        dueWriteThrows(x, Check.STATE);
    }

    private static void writeUnmapped() {
        FileBoxes x = plain();
        x.palette(1, 1);
        dueWriteThrows(x, Check.STATE);
        x.map(0, 0, 0);
        check.due("with a map", x.write(0, false), PLAIN_LENGTH + 13 + 12);
        x.palette(1, 1);
        dueWriteThrows(x, Check.STATE);
        x.palette(0, 1);
        check.due("without a palette", x.write(0, false), PLAIN_LENGTH);
    }

    private static void writeNoComponent() {
        FileBoxes x = plain();
        x.palette(1, 1);
        x.map(2, 1, 0);
        check.due("component 2 of three", x.write(0, false), PLAIN_LENGTH + 13 + 12);
        x.map(3, 0, 0);
        dueWriteThrows(x, Check.STATE);
        x.map(0, 0, 0);
        dueWriteThrows(x, Check.STATE);
        x.size(5, 6, 4, 7, false, false);
        check.due("component 3 of four", x.write(0, false), PLAIN_LENGTH + 13 + 20);
        x.size(5, 6, 2, 7, false, false);
        dueWriteThrows(x, Check.STATE);
    }

    private static void writeNoChannel() {
        FileBoxes x = plain();
        x.channel(2, 0, 0);
        check.due("channel 2 of three components", x.write(0, false), PLAIN_LENGTH + 16);
        x.channel(3, 0, 0);
        dueWriteThrows(x, Check.STATE);
        x.palette(1, 1);
        for (int k = 0; k < 3; k++) {
            x.map(0, 0, 0);
            dueWriteThrows(x, Check.STATE);
        }
        x.map(0, 0, 0);
        check.due("channel 3 of four in the map", x.write(0, false), PLAIN_LENGTH + 22 + 13 + 24);
        x.size(5, 6, 1, 7, false, false);
        check.due("whatever components there are", x.write(0, false), PLAIN_LENGTH + 22 + 13 + 24);
        x.palette(0, 1);
        dueWriteThrows(x, Check.STATE);
        x.plan();
        x.size(5, 6, 1, 7, false, false);
        x.colours(16);
        check.due("lines of a former plan", x.write(0, false), PLAIN_LENGTH);
    }

    private static void writeIntoFull() {
        for (int room = PLAIN_LENGTH - 1; room <= PLAIN_LENGTH + 8; room++) {
            FileBoxes x = withRoomFor(room);
            if (room < PLAIN_LENGTH) {
                dueWriteThrows(x, Check.UNSUPPORTED);
                continue;
            }
            if (room < PLAIN_LENGTH + 8) {
                check.isThrown("far, into " + room, Check.UNSUPPORTED, () -> x.write(0, true));
                check.due("as many bytes", x.at(-1), 65536 - room);
            }
            boolean far = room == PLAIN_LENGTH + 8;
            check.due("into " + room, x.write(0, far), far ? PLAIN_LENGTH + 8 : PLAIN_LENGTH);
            check.due("the last byte", x.at(x.at(-1) - 1), far ? 16 : Boxes.STREAM & 255);
        }
        dueWriteThrows(withRoomFor(0), Check.UNSUPPORTED);
    }

    private static void writeWithoutThoseBytes() {
        FileBoxes x = withRoomFor(PLAIN_LENGTH);
        check.due("65536 bytes, just as the file is full", x.write(65536, false), PLAIN_LENGTH);
        check.due("full", x.at(-1), 65536);
        FileBoxes y = withRoomFor(PLAIN_LENGTH + 8);
        check.due("far", y.write(65536, true), PLAIN_LENGTH + 8);
        check.due("full", y.at(-1), 65536);
    }
}
