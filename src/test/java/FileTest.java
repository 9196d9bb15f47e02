/** Promises 16 to 20: the bytes of a file, and the boxes that are written behind them. */
public final class FileTest {
    private static final Check check = new Check();

    public static void main(String[] args) {
        putAndAt();
        spoil();
        clear();
        fullFile();
        writePlain();
        writeAll();
        writeProfile();
        writeNumbers();
        writeRefused();
        writeWhatWasRead();
        writeToTheEnd();
        check.end();
    }

    private static FileBoxes plain() {
        FileBoxes x = new FileBoxes();
        x.size(5, 6, 3, 7, false, false);
        x.colours(16);
        return x;
    }

    private static void dueScannedNoMore(String what, FileBoxes x) {
        check.isThrown(what + ": not scanned", Check.STATE, () -> x.stream(0));
    }

    private static void dueScanned(String what, FileBoxes x) {
        check.due(what + ": still scanned", x.stream(1), 0);
    }

    private static void putAndAt() {
        FileBoxes x = new FileBoxes();
        for (int k = 0; k < 200; k++) {
            check.due("put", x.put(255 - k), k + 1);
        }
        check.due("at(-1)", x.at(-1), 200);
        check.due("at(0)", x.at(0), 255);
        check.due("at(199)", x.at(199), 56);
        for (int k : new int[] {200, -2, Integer.MIN_VALUE, Integer.MAX_VALUE}) {
            check.isThrown("at(" + k + ")", Check.NONE, () -> x.at(k));
        }
        FileBoxes y = plain();
        y.write(0, false);
        y.scan();
        check.isThrown("put(-1)", Check.ARGUMENT, () -> y.put(-1));
        check.isThrown("put(256)", Check.ARGUMENT, () -> y.put(256));
        dueScanned("put that throws", y);
        y.put(0);
        dueScannedNoMore("put", y);
    }

    private static void spoil() {
        FileBoxes x = plain();
        int length = x.write(0, false);
        x.scan();
        check.isThrown("spoil(-1)", Check.NONE, () -> x.spoil(-1, 0));
        check.isThrown("spoil beyond", Check.NONE, () -> x.spoil(length, 0));
        dueScanned("spoil that throws", x);
        x.spoil(length - 1, 0x1FE);
        check.due("lowest eight bits", x.at(length - 1), 0xFE);
        dueScannedNoMore("spoil", x);
        x.spoil(0, -1);
        check.due("of -1", x.at(0), 255);
        check.due("as many as before", x.at(-1), length);
    }

    private static void clear() {
        FileBoxes x = plain();
        x.write(0, false);
        x.scan();
        x.clear();
        check.due("empty", x.at(-1), 0);
        check.isThrown("at(0)", Check.NONE, () -> x.at(0));
        check.isThrown("spoil(0)", Check.NONE, () -> x.spoil(0, 0));
        dueScannedNoMore("clear", x);
        check.due("the plan stays", x.get(2, 0), 3);
        check.due("put begins anew", x.put(3), 1);
        check.due("byte 0", x.at(0), 3);
    }

    /** Wide palettes fill a file in few calls. */
    private static FileBoxes almostFull(int left) {
        FileBoxes x = plain();
        x.palette(1024, 4);
        for (int c = 0; c < 4; c++) {
            x.column(c, 37);
        }
        x.map(0, 0, 0);
        for (int k = 0; k < 3; k++) {
            x.write(0, false);
        }
        x.palette(0, 1);
        int room = 65536 - left - x.at(-1);
        while (room >= 100) {
            room -= x.write(0, false);
        }
        for (int k = 0; k < room; k++) {
            x.put(1);
        }
        return x;
    }

    private static void fullFile() {
        FileBoxes x = almostFull(2);
        check.due("put", x.put(8), 65535);
        check.due("put", x.put(9), 65536);
        check.isThrown("put beyond", Check.UNSUPPORTED, () -> x.put(9));
        check.isThrown("put beyond, wrong too", Check.ARGUMENT, () -> x.put(256));
        check.due("full", x.at(-1), 65536);
        check.due("last byte", x.at(65535), 9);
        check.isThrown("at(65536)", Check.NONE, () -> x.at(65536));
        x.spoil(65535, 77);
        check.due("last byte spoiled", x.at(65535), 77);
    }

    private static void dueFile(String what, FileBoxes x, byte[] file) {
        int count = x.at(-1);
        check.due(what + ": bytes", count, file.length);
        for (int k = 0; k < file.length && k < count; k++) {
            check.due(what + ": byte " + k, x.at(k), file[k] & 255);
        }
    }

    private static void writePlain() {
        byte[] head = Boxes.headWith();
        FileBoxes x = plain();
        check.due("write", x.write(0, false), 32 + head.length + 8);
        dueFile("plain", x, Boxes.file(head, Boxes.stream()));
        x = plain();
        x.put(200);
        x.write(65536, true);
        byte[] stream = Boxes.join(Boxes.u4(1, Boxes.STREAM), Boxes.number(65552, 8));
        dueFile("far, behind a byte", x, Boxes.join(Boxes.bytes(200), Boxes.file(head, stream)));
        x = plain();
        x.write(65536, false);
        dueFile("near", x, Boxes.file(head, Boxes.u4(65544, Boxes.STREAM)));
        x.write(0, true);
        FileBoxes scanned = plain();
        scanned.write(0, false);
        scanned.scan();
        scanned.write(0, false);
        dueScannedNoMore("write", scanned);
    }

    private static void writeAll() {
        FileBoxes x = new FileBoxes();
        x.size(0x01020304, 7, 2, 7, true, true);
        x.bits(1, 139);
        x.colours(18);
        x.palette(2, 2);
        x.column(1, 9);
        x.entry(0, 1, 1023);
        x.entry(1, 0, 200);
        x.map(1, 1, 1);
        x.map(0, 0, 0);
        x.channel(1, 65535, 65534);
        x.channel(0, 2, 3);
        x.resolution(true, 1, 2, 3, 4, -1, -128);
        byte[] front = Boxes.join(
                Boxes.box(Boxes.SIZE, Boxes.u4(0x01020304, 7), Boxes.u2(2), Boxes.bytes(255, 7, 1, 1)),
                Boxes.box(Boxes.BITS, Boxes.bytes(7, 139)),
                Boxes.colour(18),
                Boxes.palette(2, 2, 7, 9, 0, 3, 255, 200, 0, 0),
                Boxes.box(Boxes.MAP, Boxes.bytes(0, 1, 1, 1, 0, 0, 0, 0)),
                Boxes.box(Boxes.CHANNELS, Boxes.u2(2, 1, 65535, 65534, 0, 2, 3)));
        byte[] display = Boxes.box(Boxes.DISPLAY, Boxes.u2(1, 2, 3, 4), Boxes.bytes(255, 128));
        x.write(3, false);
        dueFile("display alone", x, Boxes.file(
                Boxes.head(front, Boxes.box(Boxes.RESOLUTION, display)), Boxes.u4(11, Boxes.STREAM)));
        x.clear();
        x.resolution(false, 65535, 1, 1, 1, 127, 0);
        byte[] capture = Boxes.box(Boxes.CAPTURE, Boxes.u2(65535, 1, 1, 1), Boxes.bytes(127, 0));
        x.write(3, false);
        dueFile("both resolutions", x, Boxes.file(
                Boxes.head(front, Boxes.box(Boxes.RESOLUTION, capture, display)), Boxes.u4(11, Boxes.STREAM)));
    }

    private static void writeProfile() {
        FileBoxes x = new FileBoxes();
        x.size(1, 1, 1, 0, false, false);
        x.colours(0);
        check.isThrown("a profile without bytes", Check.STATE, () -> x.write(0, false));
        x.profile(255);
        x.profile(0);
        x.write(0, false);
        byte[] colour = Boxes.box(Boxes.COLOUR, Boxes.bytes(2, 0, 0, 255, 0));
        dueFile("profile", x, Boxes.file(Boxes.head(Boxes.size(1, 1, 1, 0), colour), Boxes.stream()));
    }

    /** The lowest bits of numbers, those above 0. */
    private static void writeNumbers() {
        FileBoxes x = plain();
        x.palette(1, 7);
        int[] bits = {165, 128, 135, 136, 159, 160, 37};
        long[] numbers = {-1, -1, -128, -256, -1, -2, (1L << 38) - 1};
        for (int c = 0; c < 7; c++) {
            x.column(c, bits[c]);
            x.entry(0, c, numbers[c]);
        }
        x.column(6, 2);
        x.map(0, 1, 6);
        x.write(0, false);
        byte[] palette = Boxes.palette(1, 7, 165, 128, 135, 136, 159, 160, 2,
                0x3F, 255, 255, 255, 255, 1, 128, 1, 0, 255, 255, 255, 255, 1, 255, 255, 255, 254, 7);
        dueFile("numbers", x, Boxes.file(
                Boxes.headWith(palette, Boxes.box(Boxes.MAP, Boxes.bytes(0, 0, 1, 6))), Boxes.stream()));
        check.due("the number stays", x.number(0, 6), (1L << 38) - 1);
    }

    private static void dueWriteRefused(String what, FileBoxes x) {
        int before = x.at(-1);
        check.isThrown(what, Check.STATE, () -> x.write(0, false));
        check.isThrown(what + ", -1 bytes", Check.ARGUMENT, () -> x.write(-1, false));
        check.isThrown(what + ", 65537 bytes", Check.ARGUMENT, () -> x.write(65537, true));
        check.due(what + ": file", x.at(-1), before);
    }

    private static void writeRefused() {
        FileBoxes x = new FileBoxes();
        dueWriteRefused("nothing told", x);
        x.colours(16);
        dueWriteRefused("no size", x);
        x.plan();
        x.size(1, 1, 2, 7, false, false);
        dueWriteRefused("no colours", x);
        x.colours(16);
        x.write(0, false);
        x.palette(1, 1);
        dueWriteRefused("no map", x);
        x.map(1, 0, 0);
        x.write(0, false);
        x.map(2, 1, 0);
        dueWriteRefused("component 2 in the map", x);
        x.size(1, 1, 3, 7, false, false);
        x.write(0, false);
        x.channel(2, 0, 0);
        dueWriteRefused("channel 2 of two in the map", x);
        x.map(0, 0, 0);
        x.write(0, false);
        x.size(1, 1, 2, 7, false, false);
        dueWriteRefused("component 2 is gone", x);
        x.palette(0, 1);
        dueWriteRefused("channel 2 of two components", x);
        x.size(1, 1, 3, 7, false, false);
        check.due("write", x.write(0, false), 32 + 8 + 22 + 15 + 16 + 8);
        x.plan();
        x.size(1, 1, 1, 7, false, false);
        x.colours(16);
        check.due("lines of a former plan", x.write(0, false), 32 + 8 + 22 + 15 + 8);
    }

    /** BITS that are all the same are read, and written without BITS. */
    private static void writeWhatWasRead() {
        FileBoxes x = Boxes.put(Boxes.file(Boxes.head(Boxes.size(5, 6, 3, 255),
                Boxes.box(Boxes.BITS, Boxes.bytes(7, 7, 7)), Boxes.colour(16)), Boxes.stream()));
        check.due("scan", x.scan(), 0);
        x.clear();
        x.write(0, false);
        dueFile("same bits", x, Boxes.file(Boxes.headWith(), Boxes.stream()));
    }

    private static void writeToTheEnd() {
        int length = plain().write(0, false);
        FileBoxes x = almostFull(length + 7);
        check.isThrown("far, one byte too long", Check.UNSUPPORTED, () -> x.write(0, true));
        check.isThrown("far, wrong bytes", Check.ARGUMENT, () -> x.write(-1, true));
        check.due("nothing was put", x.at(-1), 65536 - length - 7);
        check.due("near fits", x.write(65536, false), length);
        FileBoxes y = almostFull(length);
        check.due("just fits", y.write(0, false), length);
        check.due("full", y.at(-1), 65536);
        check.isThrown("full", Check.UNSUPPORTED, () -> y.write(0, false));
        y.palette(1, 1);
        check.isThrown("full, no map", Check.STATE, () -> y.write(0, false));
    }
}
