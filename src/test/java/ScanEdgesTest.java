import java.util.ArrayList;
import java.util.Arrays;
import java.util.Collections;
import java.util.List;

/**
 * Promises 21 to 23, and the boxes and refusals that 'Terms' tells: for each sentence that names a
 * boundary case a test of its own.
 */
public final class ScanEdgesTest {
    private static final Check check = new Check();
    private static final int CUT = 1;
    private static final int WRONG = 2;
    private static final int LENGTH = 3;
    private static final int TWICE = 4;
    private static final int VALUE = 5;
    private static final int MISSING = 6;
    private static final int GREAT = 7;
    private static final int MOST = Integer.MAX_VALUE;
    // Of the HEAD behind SIGN and KIND, of SIZE in it, and of what stands behind SIZE, and behind
    // SIZE and COLOUR.
    private static final int HEAD_AT = 32;
    private static final int SIZE_AT = 40;
    private static final int SECOND_AT = 62;
    private static final int THIRD_AT = 77;
    private static final byte[] STREAM = Boxes.stream(1, 2);
    private static final byte[] HEAD = Boxes.headWith();
    private static final byte[] PALETTE = Boxes.palette(1, 2, 7, 7, 0, 0);
    private static final byte[] MAP = Boxes.box(Boxes.MAP, Boxes.bytes(0, 0, 1, 1));
    private static final byte[] OTHER = Boxes.box(Boxes.OTHER);

    public static void main(String[] args) {
        boxes();
        contents();
        palettesAndMaps();
        places();
        cutAndLength();
        wrong();
        lengths();
        twice();
        great();
        values();
        missing();
        order();
        promises();
        check.end();
    }

    private static void boxes() {
        check.sentence("Terms", "the length counts all of it", ScanEdgesTest::nearLengths);
        check.sentence("Terms", "A length of 1 stands for another one, U8 (without sign), behind the name", ScanEdgesTest::farLengths);
        check.sentence("Terms", "(which counts all, too: 16 or more)", ScanEdgesTest::sixteenOrMore);
        check.sentence("Terms", "a length of 0, not within a box, means up to the end of the file", ScanEdgesTest::upToTheEnd);
    }

    private static void contents() {
        check.sentence("Terms", "6A502020 SIGN: U4 0D0A870A.", ScanEdgesTest::signContent);
        check.sentence("Terms", "then U4 names, one or more; one of these is 6A703220.", ScanEdgesTest::kindNames);
        check.sentence("Terms", "U1 bits, U1 7,", ScanEdgesTest::seven);
        check.sentence("Terms", "U1 whether colours are unknown, U1 whether there are rights (0, 1).", ScanEdgesTest::unknownAndRights);
        check.sentence("Terms", "Bits of a component are one less than how many it has (0 .. 37), and 128 more if it is signed", ScanEdgesTest::bitsOfSize);
        check.sentence("Terms", "255 if components have other ones: then 62706363 BITS: U1 bits of each.", ScanEdgesTest::bitsOfEach);
        check.sentence("Terms", "COLOUR: U1 method, U1 any, U1 any", ScanEdgesTest::anyOfColour);
        check.sentence("Terms", "of method 1 U4 colours (16, 17 or 18)", ScanEdgesTest::coloursOfMethod1);
        check.sentence("Terms", "of method 2 a PROFILE, one byte or more", ScanEdgesTest::profileOfMethod2);
        check.sentence("Terms", "of others anything, one byte or more.", ScanEdgesTest::otherMethods);
        check.sentence("Terms", "Method 1 has such colours also where it doesn't count.", ScanEdgesTest::coloursThatDoNotCount);
        check.sentence("Terms", "(The first one of method 1 or 2 counts.)", ScanEdgesTest::firstColourCounts);
    }

    private static void palettesAndMaps() {
        check.sentence("Terms", "PALETTE: U2 entries (1 .. 1024)", ScanEdgesTest::entries);
        check.sentence("Terms", "U1 columns (1 .. 255)", ScanEdgesTest::columns);
        check.sentence("Terms", "in as many bytes as its bits (one more than told) need", ScanEdgesTest::widths);
        check.sentence("Terms", "its lowest bits (in reading, with the sign if it is signed)", ScanEdgesTest::signs);
        check.sentence("Terms", "those above 0 (any in reading).", ScanEdgesTest::bitsAbove);
        check.sentence("Terms", "MAP: for each channel (one to 16)", ScanEdgesTest::channelsOfMap);
        check.sentence("Terms", "U1 way (0: as it is, 1: by the palette), U1 column (0 if it is as it is).", ScanEdgesTest::ways);
        check.sentence("Terms", "CHANNELS: U2 how many (perhaps 0)", ScanEdgesTest::noLines);
        check.sentence("Terms", "U2 type (0, 1, 2, 65535), U2 what it belongs to.", ScanEdgesTest::types);
        check.sentence("Terms", "U2 down, U2 of so many, U2 across, U2 of so many (none 0)", ScanEdgesTest::ratios);
        check.sentence("Terms", "U1 and U1 powers (-128 .. 127, as one byte).", ScanEdgesTest::powers);
    }

    private static void places() {
        check.sentence("Terms", "All other names: anything", ScanEdgesTest::otherNames);
        check.sentence("Terms", "(those of what may be in HEAD or RESOLUTION, too, where they stand elsewhere", ScanEdgesTest::namesElsewhere);
        check.sentence("Terms", "SIZE, but as the second one in HEAD)", ScanEdgesTest::sizeElsewhere);
        check.sentence("Terms", "HEAD once, ahead of the first STREAM", ScanEdgesTest::headOnce);
        check.sentence("Terms", "STREAMs (the first one counts)", ScanEdgesTest::firstStreamCounts);
        check.sentence("Terms", "HEAD begins with SIZE", ScanEdgesTest::sizeFirst);
        check.sentence("Terms", "then the others in any order, but MAP behind PALETTE", ScanEdgesTest::anyOrder);
        check.sentence("Terms", "each but COLOUR once at most.", ScanEdgesTest::colourOften);
        check.sentence("Terms", "one for each that MAP tells, or one for each component, as it is.", ScanEdgesTest::channels);
    }

    private static void cutAndLength() {
        check.sentence("SCAN 1", "1 CUT: less than 8 bytes", ScanEdgesTest::lessThanEight);
        check.sentence("SCAN 1", "(16 with U8) up to the end of what it is in", ScanEdgesTest::lessThanSixteen);
        check.sentence("SCAN 1", "(also none, where SIGN or KIND must be)", ScanEdgesTest::noneWhereOneMustBe);
        check.sentence("SCAN 1", "or its length goes beyond that.", ScanEdgesTest::beyond);
        check.sentence("SCAN 1", "less than 8 bytes (16 with U8) up to the end", ScanEdgesTest::everyBeginning);
        check.sentence("SCAN 1", "(The place of a box in another one is its own.)", ScanEdgesTest::ownPlace);
        check.sentence("SCAN 3", "3 LENGTH: below 8", ScanEdgesTest::belowEight);
        check.sentence("SCAN 3", "(16 with U8; 0 within a box).", ScanEdgesTest::belowSixteen);
        check.sentence("SCAN 3", "0 within a box", ScanEdgesTest::noughtWithin);
    }

    private static void wrong() {
        check.sentence("SCAN 2", "not SIGN as first", ScanEdgesTest::notSignFirst);
        check.sentence("SCAN 2", "KIND as second box", ScanEdgesTest::notKindSecond);
        check.sentence("SCAN 2", "these or HEAD or STREAM elsewhere than said (also in HEAD or RESOLUTION)", ScanEdgesTest::elsewhere);
        check.sentence("SCAN 2", "also a second HEAD behind a STREAM", ScanEdgesTest::headBehindStream);
        check.sentence("SCAN 2", "(but see 6)", () -> due("STREAM ahead of HEAD", Boxes.file(STREAM, HEAD), MISSING, 32));
        check.sentence("SCAN 2", "not SIZE as first one in HEAD", ScanEdgesTest::notSizeFirst);
        check.sentence("SCAN 2", "SIZE in front of all else alone (a second one, too)", ScanEdgesTest::secondSize);
        check.sentence("SCAN 2", "BITS if bits aren't 255", ScanEdgesTest::bitsUnasked);
        check.sentence("SCAN 2", "MAP ahead of PALETTE.", ScanEdgesTest::mapAhead);
    }

    private static void lengths() {
        check.sentence("SCAN 3", "its content has more or fewer bytes than it needs.", () -> dueLengths("CAPTURE", 9, 11));
        check.sentence("SCAN 3", "SIZE 14 bytes", ScanEdgesTest::lengthOfSize);
        check.sentence("SCAN 3", "BITS one for each component", ScanEdgesTest::lengthOfBits);
        check.sentence("SCAN 3", "COLOUR 4 and more, 7 of method 1", ScanEdgesTest::lengthOfColour);
        check.sentence("SCAN 3", "PALETTE 3, then by its columns, then all", ScanEdgesTest::lengthOfPalette);
        check.sentence("SCAN 3", "MAP 4 for each of one channel or more", ScanEdgesTest::lengthOfMap);
        check.sentence("SCAN 3", "CHANNELS 2, then by how many", ScanEdgesTest::lengthOfChannels);
        check.sentence("SCAN 3", "CAPTURE and DISPLAY 10", () -> dueLengths("both", 0, 1, 2, 9, 11, 20));
        check.sentence("SCAN 3", "SIGN 4, KIND 12 or more, a multiple of 4.", ScanEdgesTest::lengthOfSignAndKind);
    }

    private static void twice() {
        check.sentence("SCAN 4", "4 TWICE: HEAD", ScanEdgesTest::twoHeads);
        check.sentence("SCAN 4", "or one that may be in HEAD", ScanEdgesTest::twoInHead);
        check.sentence("SCAN 4", "or in RESOLUTION once.", ScanEdgesTest::twoInResolution);
    }

    private static void great() {
        check.sentence("SCAN 7", "7 GREAT: more than 16 components", ScanEdgesTest::greatComponents);
        check.sentence("SCAN 7", "channels in MAP or CHANNELS", ScanEdgesTest::greatChannels);
        check.sentence("SCAN 7", "8 columns", ScanEdgesTest::greatColumns);
        check.sentence("SCAN 7", "or 4096 numbers of a palette", ScanEdgesTest::greatNumbers);
        check.sentence("SCAN 7", "1024 bytes of a profile (that counts)", ScanEdgesTest::greatProfile);
        check.sentence("SCAN 7", "or a side above 2^31 - 1.", ScanEdgesTest::greatSides);
    }

    private static void values() {
        check.sentence("SCAN 5", "a side or number of components of 0", ScanEdgesTest::noughtInSize);
        check.sentence("SCAN 5", "a name of KIND missing", ScanEdgesTest::kindNames);
        check.sentence("SCAN 5", "MAP of a component that isn't there", ScanEdgesTest::mapOfNoComponent);
        check.sentence("SCAN 5", "of a column that isn't there", ScanEdgesTest::mapOfNoColumn);
        check.sentence("SCAN 5", "or a column that isn't 0 where it must be", ScanEdgesTest::mapOfColumnAsItIs);
        check.sentence("SCAN 5", "bits of the palette above 37 (without the sign).", ScanEdgesTest::bitsOfPalette);
    }

    private static void missing() {
        check.sentence("SCAN 6", "6 MISSING: STREAM without a HEAD before.", ScanEdgesTest::streamWithoutHead);
        check.sentence("SCAN 6", "6, if it has no COLOUR that counts", ScanEdgesTest::noColour);
        check.sentence("SCAN 6", "no BITS though bits are 255", ScanEdgesTest::noBits);
        check.sentence("SCAN 6", "or PALETTE without MAP", ScanEdgesTest::noMap);
        check.sentence("SCAN 5", "then 5, if CHANNELS tells a channel that isn't there", ScanEdgesTest::noChannel);
        check.sentence("SCAN 5", "or one twice.", ScanEdgesTest::channelTwice);
        check.sentence("SCAN 6", "At the end of the file, with its length as place: 6, if there was no STREAM.", ScanEdgesTest::noStream);
        check.sentence("SCAN", "KIND's first name and version, and what a RESOLUTION lacks, are anything.", ScanEdgesTest::anything);
    }

    private static void order() {
        String first = "by the first of these that is so";
        check.sentence("SCAN", "the place of the first box where something is wrong", ScanEdgesTest::firstBox);
        check.sentence("SCAN 1 2", first, ScanEdgesTest::cutAheadOfWrong);
        check.sentence("SCAN 3 2", first, ScanEdgesTest::boxLengthAheadOfWrong);
        check.sentence("SCAN 2 3", first, ScanEdgesTest::wrongAheadOfLength);
        check.sentence("SCAN 2 4", first, ScanEdgesTest::wrongAheadOfTwice);
        check.sentence("SCAN 3 4", first, ScanEdgesTest::lengthAheadOfTwice);
        check.sentence("SCAN 3 7", first, ScanEdgesTest::lengthAheadOfGreat);
        check.sentence("SCAN 3 5", first, ScanEdgesTest::lengthAheadOfValue);
        check.sentence("SCAN 4 7", first, ScanEdgesTest::twiceAheadOfGreat);
        check.sentence("SCAN 4 5", first, ScanEdgesTest::twiceAheadOfValue);
        check.sentence("SCAN 7 5", first, ScanEdgesTest::greatAheadOfValue);
        check.sentence("SCAN 1 3 6", first, ScanEdgesTest::cutAndLengthAheadOfMissing);
        check.sentence("SCAN 6 5", "then 5", ScanEdgesTest::missingAheadOfValue);
    }

    private static void promises() {
        check.sentence("21", "Scans the file: 0, or the number with which it is refused", ScanEdgesTest::scansAgain);
        check.sentence("21", "(then it is not scanned, and the plan stays)", ScanEdgesTest::refusedStays);
        check.sentence("21", "The plan becomes what it tells, if it is not refused.", ScanEdgesTest::planBecomes);
        check.sentence("22", "Where the latest scan refused, whatever came behind it", ScanEdgesTest::placeStays);
        check.sentence("22", "-1 if it did not, or there was none.", ScanEdgesTest::noPlace);
        check.sentence("23", "the place of its first byte (0), how many (1).", ScanEdgesTest::streamAsked);
        check.sentence("23", "IllegalStateException if the file is not scanned", ScanEdgesTest::streamUnscanned);
        check.sentence("23", "NoSuchElementException for another what.", ScanEdgesTest::streamOfNone);
    }

    private static void due(String what, byte[] file, int number, int place) {
        FileBoxes x = Boxes.put(file);
        dueScan(what, x, number, place);
        if (number != 0) {
            check.due(what + ": plan", x.get(2, 0), 0);
        }
    }

    private static void dueScan(String what, FileBoxes x, int number, int place) {
        check.due(what + ": scan()", x.scan(), number);
        check.due(what + ": place()", x.place(), place);
        if (number != 0) {
            check.isThrown(what + ": stream(0)", Check.STATE, () -> x.stream(0));
        } else {
            check.isTrue(what + ": stream", x.stream(0) > HEAD_AT && x.stream(0) + x.stream(1) <= x.at(-1));
        }
    }

    private static FileBoxes read(String what, byte[] file) {
        FileBoxes x = Boxes.put(file);
        dueScan(what, x, 0, -1);
        return x;
    }

    /** What stands behind SIZE, COLOUR and these boxes is refused, with its own place. */
    private static void dueBehind(byte[] ahead, String what, int number, byte[] box) {
        due(what, Boxes.file(Boxes.headWith(ahead, box), STREAM), number, THIRD_AT + ahead.length);
    }

    private static void dueThird(String what, int number, byte[] box) {
        dueBehind(new byte[0], what, number, box);
    }

    private static FileBoxes readThird(String what, byte[]... boxes) {
        return read(what, Boxes.file(Boxes.headWith(boxes), STREAM));
    }

    private static void dueInResolution(String what, int number, byte[] ahead, byte[] box) {
        due(what, Boxes.file(Boxes.headWith(Boxes.box(Boxes.RESOLUTION, ahead, box)), STREAM), number, THIRD_AT + 8 + ahead.length);
    }

    private static void dueSecond(String what, int number, byte[] size, byte[] box) {
        due(what, Boxes.file(Boxes.head(size, box, Boxes.colour(16)), STREAM), number, SECOND_AT);
    }

    private static byte[] sizeOf(long high, long wide, int components, int... rest) {
        return Boxes.box(Boxes.SIZE, Boxes.u4(high, wide), Boxes.u2(components), Boxes.bytes(rest));
    }

    private static byte[] fileOfSize(byte[] size) {
        return Boxes.file(Boxes.head(size, Boxes.colour(16)), STREAM);
    }

    private static byte[] ratio(int name, int... numbers) {
        return Boxes.box(name, Boxes.u2(Arrays.copyOf(numbers, 4)), Boxes.bytes(numbers[4], numbers[5]));
    }

    private static byte[] channelsOf(int... numbers) {
        return Boxes.box(Boxes.CHANNELS, Boxes.u2(numbers));
    }

    /** CHANNELS with so many lines of the channels 0, 1, .. */
    private static byte[] linesOf(int lines, int type) {
        int[] numbers = new int[1 + 3 * lines];
        numbers[0] = lines;
        for (int k = 0; k < lines; k++) {
            numbers[3 * k + 1] = k;
            numbers[3 * k + 2] = type;
        }
        return channelsOf(numbers);
    }

    private static void nearLengths() {
        read("8, with nothing in it", Boxes.file(OTHER, HEAD, STREAM, OTHER));
        read("9, with one byte", Boxes.file(Boxes.box(0, Boxes.bytes(1)), HEAD, STREAM));
        readThird("8 in HEAD", OTHER);
        readThird("8 in RESOLUTION", Boxes.box(Boxes.RESOLUTION, OTHER));
        FileBoxes x = read("an empty STREAM", Boxes.file(HEAD, Boxes.stream()));
        check.due("its bytes", x.stream(1), 0);
    }

    private static void farLengths() {
        byte[] resolution = Boxes.farBox(Boxes.RESOLUTION, Boxes.farBox(Boxes.CAPTURE, Boxes.u2(1, 2, 3, 4, 0x0506)));
        byte[] head = Boxes.farBox(Boxes.HEAD,
                Boxes.farBox(Boxes.SIZE, Boxes.u4(5, 6), Boxes.u2(3), Boxes.bytes(7, 7, 0, 0)), resolution,
                Boxes.farBox(Boxes.COLOUR, Boxes.bytes(1, 0, 0), Boxes.u4(16)));
        byte[] file = Boxes.join(Boxes.farBox(Boxes.SIGN, Boxes.u4(0x0D0A870A)),
                Boxes.farBox(Boxes.KIND, Boxes.u4(0, 0, 0x6A703220)), head, Boxes.farBox(Boxes.STREAM, Boxes.bytes(1, 2, 3)));
        FileBoxes x = read("all far", file);
        check.due("stream(0)", x.stream(0), file.length - 3);
        check.due("stream(1)", x.stream(1), 3);
        check.due("capture", x.get(35, 0), 6);
        long[] beyond = {17, 1L << 16, 1L << 31, (1L << 32) + 16, 1L << 32, Long.MIN_VALUE, Long.MIN_VALUE + 16, -1, -16, Long.MAX_VALUE};
        for (long length : beyond) {
            byte[] box = Boxes.join(Boxes.u4(1, 0), Boxes.number(length, 8));
            due("U8 " + length, Boxes.file(box), CUT, 32);
            dueThird("U8 " + length + " in HEAD", CUT, box);
            dueInResolution("U8 " + length + " in RESOLUTION", CUT, new byte[0], box);
        }
    }

    private static void sixteenOrMore() {
        byte[] empty = Boxes.farBox(Boxes.OTHER);
        read("16 in the file", Boxes.file(empty, HEAD, STREAM, empty));
        readThird("16 in HEAD", empty);
        readThird("16 in RESOLUTION", Boxes.box(Boxes.RESOLUTION, empty));
        FileBoxes x = read("an empty STREAM", Boxes.file(HEAD, Boxes.farBox(Boxes.STREAM)));
        check.due("its bytes", x.stream(1), 0);
        for (int length = 0; length < 16; length++) {
            byte[] box = Boxes.join(Boxes.u4(1, 0), Boxes.number(length, 8));
            due("U8 " + length, Boxes.file(HEAD, STREAM, box), LENGTH, 87);
            dueThird("U8 " + length + " in HEAD", LENGTH, box);
        }
    }

    private static void upToTheEnd() {
        FileBoxes x = read("STREAM", Boxes.file(HEAD, Boxes.boxOfLength(0, Boxes.STREAM, Boxes.bytes(1, 2, 3))));
        check.due("its bytes", x.stream(1), 3);
        x = read("STREAM without bytes", Boxes.file(HEAD, Boxes.boxOfLength(0, Boxes.STREAM)));
        check.due("its place", x.stream(0), 85);
        check.due("no bytes", x.stream(1), 0);
        x = read("STREAM that has another one in it", Boxes.file(HEAD, Boxes.boxOfLength(0, Boxes.STREAM, STREAM)));
        check.due("it is one", x.stream(1), 10);
        read("another one", Boxes.file(HEAD, STREAM, Boxes.boxOfLength(0, Boxes.OTHER, Boxes.bytes(9))));
        due("another one ahead of HEAD", Boxes.file(Boxes.boxOfLength(0, Boxes.OTHER, HEAD, STREAM)), MISSING, 95);
        due("HEAD", Boxes.file(Boxes.boxOfLength(0, Boxes.HEAD, Boxes.size(5, 6, 3, 7), Boxes.colour(16))), MISSING, 77);
        due("HEAD with STREAM in it", Boxes.file(Boxes.boxOfLength(0, Boxes.HEAD, Boxes.size(5, 6, 3, 7), Boxes.colour(16), STREAM)), WRONG, 77);
        due("SIGN", Boxes.boxOfLength(0, Boxes.SIGN, Boxes.u4(0x0D0A870A)), CUT, 12);
        due("SIGN with KIND in it", Boxes.boxOfLength(0, Boxes.SIGN, Boxes.u4(0x0D0A870A), Boxes.kind()), LENGTH, 0);
        due("KIND", Boxes.join(Boxes.sign(), Boxes.boxOfLength(0, Boxes.KIND, Boxes.u4(0, 0, 0x6A703220))), MISSING, 32);
    }

    private static void signContent() {
        for (int k = 0; k < 4; k++) {
            for (int bit = 1; bit <= 128; bit *= 2) {
                byte[] file = Boxes.file(HEAD, STREAM);
                file[8 + k] ^= (byte) bit;
                due("SIGN byte " + k, file, VALUE, 0);
            }
        }
        read("SIGN", Boxes.file(HEAD, STREAM));
    }

    private static void dueKind(String what, int number, long... names) {
        byte[] file = Boxes.join(Boxes.sign(), Boxes.box(Boxes.KIND, Boxes.u4(names)), HEAD, STREAM);
        due(what, file, number, number == 0 ? -1 : 12);
    }

    private static void kindNames() {
        long name = 0x6A703220;
        dueKind("no names", LENGTH, name, name);
        dueKind("it is the only one", 0, 1, 2, name);
        dueKind("the first of two", 0, 1, 2, name, 3);
        dueKind("the second of two", 0, 1, 2, 3, name);
        dueKind("the third of three", 0, 1, 2, 3, 4, name);
        dueKind("the last of many", 0, 1, 2, 3, 4, 5, 6, 7, name);
        dueKind("not among names", VALUE, name, 0, 1);
        dueKind("nor as version", VALUE, 0, name, 1, 2);
        dueKind("by halves", VALUE, 0, 0, 0x00006A70, 0x32200000);
        dueKind("half of it in the version", VALUE, 0, 0x6A70, 0x32200000);
        dueKind("almost", VALUE, 0, 0, name + 1, name - 1, 0);
        due("behind it", Boxes.join(Boxes.sign(), Boxes.box(Boxes.KIND, Boxes.u4(0, 0, 1)), Boxes.u4(name, 0)), VALUE, 12);
    }

    private static void seven() {
        for (int b : new int[] {0, 6, 8, 135, 255}) {
            due("not 7 but " + b, fileOfSize(sizeOf(5, 6, 3, 7, b, 0, 0)), VALUE, SIZE_AT);
        }
    }

    private static void unknownAndRights() {
        for (int k = 0; k < 4; k++) {
            FileBoxes x = read("unknown, rights " + k, fileOfSize(sizeOf(5, 6, 3, 7, 7, k / 2, k % 2)));
            check.due("unknown", x.get(3, 0), k / 2);
            check.due("rights", x.get(4, 0), k % 2);
        }
        for (int b : new int[] {2, 3, 128, 255}) {
            due("unknown " + b, fileOfSize(sizeOf(5, 6, 3, 7, 7, b, 0)), VALUE, SIZE_AT);
            due("rights " + b, fileOfSize(sizeOf(5, 6, 3, 7, 7, 0, b)), VALUE, SIZE_AT);
        }
    }

    private static void bitsOfSize() {
        for (int b = 0; b < 255; b++) {
            byte[] file = fileOfSize(Boxes.size(5, 6, 2, b));
            if (b % 128 <= 37) {
                check.due("bits " + b, read("bits " + b, file).get(20, 1), b);
            } else {
                due("bits " + b, file, VALUE, SIZE_AT);
            }
        }
    }

    private static void bitsOfEach() {
        for (int b = 0; b < 256; b++) {
            byte[] file = Boxes.file(Boxes.head(Boxes.size(5, 6, 2, 255), Boxes.box(Boxes.BITS, Boxes.bytes(3, b)), Boxes.colour(16)), STREAM);
            if (b % 128 <= 37) {
                FileBoxes x = read("bits " + b, file);
                check.due("bits 0", x.get(20, 0), 3);
                check.due("bits 1", x.get(20, 1), b);
            } else {
                due("bits " + b, file, VALUE, SECOND_AT);
            }
        }
        due("none of what is behind it", Boxes.file(Boxes.head(Boxes.size(5, 6, 2, 255),
                Boxes.box(Boxes.BITS, Boxes.bytes(7, 7)), Boxes.boxOfLength(99L << 24, 0)), STREAM), CUT, SECOND_AT + 10);
        for (int components : new int[] {1, 16}) {
            byte[] bits = new byte[components];
            bits[components - 1] = (byte) 165;
            FileBoxes x = read("BITS of " + components, Boxes.file(Boxes.head(Boxes.size(5, 6, components, 255),
                    Boxes.colour(16), Boxes.box(Boxes.BITS, bits)), STREAM));
            check.due("the last one", x.get(20, components - 1), 165);
            check.isThrown("no more", Check.NONE, () -> x.get(20, components));
        }
    }

    private static byte[] fileOfColours(byte[]... colours) {
        return Boxes.file(Boxes.head(Boxes.size(5, 6, 3, 7), Boxes.join(colours)), STREAM);
    }

    private static byte[] colourOf(int... content) {
        return Boxes.box(Boxes.COLOUR, Boxes.bytes(content));
    }

    private static void anyOfColour() {
        for (int any : new int[] {0, 1, 128, 255}) {
            check.due("colours", read("any", fileOfColours(colourOf(1, any, 255 - any, 0, 0, 0, 17))).get(5, 0), 17);
            check.due("profile", read("any", fileOfColours(colourOf(2, any, 255 - any, 9))).get(6, 0), 1);
        }
    }

    private static void coloursOfMethod1() {
        for (int colours = 16; colours <= 18; colours++) {
            check.due("colours", read("colours", fileOfColours(Boxes.colour(colours))).get(5, 0), colours);
        }
        for (int colours : new int[] {0, 1, 15, 19, 16 + 256, 16 << 8, 16 << 16, 16 << 24, -1, Integer.MIN_VALUE + 16}) {
            due("colours " + colours, fileOfColours(Boxes.colour(colours)), VALUE, SECOND_AT);
        }
    }

    private static void profileOfMethod2() {
        due("none", fileOfColours(colourOf(2, 0, 0)), LENGTH, SECOND_AT);
        FileBoxes x = read("one byte", fileOfColours(colourOf(2, 0, 0, 255)));
        check.due("how many", x.get(6, 0), 1);
        check.due("it", x.get(21, 0), 255);
        check.due("no colours", x.get(5, 0), 0);
        check.isThrown("no more", Check.NONE, () -> x.get(21, 1));
        FileBoxes y = read("seven bytes, with 16 in it", fileOfColours(colourOf(2, 0, 0, 0, 0, 0, 16)));
        check.due("how many", y.get(6, 0), 4);
    }

    private static void otherMethods() {
        for (int method : new int[] {0, 3, 4, 127, 128, 129, 130, 255}) {
            readThird("one byte", colourOf(method, 0, 0, 0));
            readThird("four bytes", colourOf(method, 0, 0, 0, 0, 0, 15));
            dueThird("none", LENGTH, colourOf(method, 0, 0));
            due("alone", fileOfColours(colourOf(method, 0, 0, 0, 0, 0, 16)), MISSING, HEAD_AT);
        }
    }

    private static void coloursThatDoNotCount() {
        byte[] profile = colourOf(2, 0, 0, 9);
        for (int colours : new int[] {0, 15, 19}) {
            dueThird("behind colours", VALUE, Boxes.colour(colours));
            due("behind a profile", fileOfColours(profile, Boxes.colour(colours)), VALUE, SECOND_AT + profile.length);
        }
        dueThird("its length, too", LENGTH, colourOf(1, 0, 0, 0, 0, 16));
        readThird("such ones", Boxes.colour(18));
    }

    private static void firstColourCounts() {
        byte[] method3 = colourOf(3, 0, 0, 7);
        FileBoxes x = read("colours first", fileOfColours(method3, Boxes.colour(17), colourOf(2, 0, 0, 9), Boxes.colour(18)));
        check.due("colours", x.get(5, 0), 17);
        check.due("no profile", x.get(6, 0), -1);
        x = read("a profile first", fileOfColours(method3, colourOf(2, 0, 0, 9), colourOf(2, 0, 0, 8, 7), Boxes.colour(18)));
        check.due("no colours", x.get(5, 0), 0);
        check.due("a profile", x.get(6, 0), 1);
        check.due("its byte", x.get(21, 0), 9);
    }

    /** A HEAD with a box of so many bytes behind those that are told; which bytes doesn't matter. */
    private static FileBoxes withLong(int name, byte[] begin, int more, byte[] behind) {
        int length = 8 + begin.length + more;
        FileBoxes x = Boxes.put(Boxes.join(Boxes.sign(), Boxes.kind(),
                Boxes.u4(45 + length + behind.length, Boxes.HEAD), Boxes.size(5, 6, 3, 7), Boxes.colour(16),
                Boxes.u4(length, name), begin));
        x.size(1, 1, 1, 7, false, false);
        x.colours(16);
        FileEdgesTest.fill(x, more);
        Boxes.putInto(x, Boxes.join(behind, STREAM));
        return x;
    }

    private static void dueLongPalette(int entries, int columns, int number) {
        int[] bits = new int[columns];
        Arrays.fill(bits, 7);
        byte[] begin = Boxes.join(Boxes.u2(entries), Boxes.bytes(columns), Boxes.bytes(bits));
        FileBoxes x = withLong(Boxes.PALETTE, begin, entries * columns, Boxes.box(Boxes.MAP, Boxes.bytes(0, 0, 1, 0)));
        dueScan(entries + " by " + columns, x, number, number == 0 ? -1 : THIRD_AT);
        if (number == 0) {
            check.due("entries", x.get(7, 0), entries);
            check.due("columns", x.get(8, 0), columns);
            check.due("the last number", x.number(entries - 1, columns - 1), x.at(x.at(-1) - STREAM.length - 12 - 1));
        }
    }

    private static void entries() {
        dueThird("0", VALUE, Boxes.palette(0, 1, 7));
        readThird("1", Boxes.palette(1, 1, 7, 9), Boxes.box(Boxes.MAP, Boxes.bytes(0, 0, 1, 0)));
        dueLongPalette(1024, 1, 0);
        dueLongPalette(1025, 1, VALUE);
        dueLongPalette(2048, 2, VALUE);
        dueLongPalette(4096, 1, VALUE);
    }

    private static void columns() {
        dueThird("0", VALUE, Boxes.palette(1, 0));
        dueThird("0, and no entries", VALUE, Boxes.palette(0, 0));
        dueThird("0, and 1024 entries", VALUE, Boxes.palette(1024, 0));
        dueThird("0, and 65535 entries", VALUE, Boxes.palette(65535, 0));
        FileBoxes x = readThird("8", Boxes.palette(1, 8, 7, 7, 7, 7, 7, 7, 7, 7, 1, 2, 3, 4, 5, 6, 7, 8), MAP);
        check.due("the last number", x.number(0, 7), 8);
        dueThird("255", GREAT, Boxes.box(Boxes.PALETTE, Boxes.u2(0), Boxes.bytes(255), new byte[255]));
    }

    private static void widths() {
        int[] told = {0, 7, 8, 15, 16, 23, 24, 31, 32, 37};
        int[] bytes = {1, 1, 2, 2, 3, 3, 4, 4, 5, 5};
        byte[] map = Boxes.box(Boxes.MAP, Boxes.bytes(0, 0, 1, 0));
        for (int k = 0; k < told.length; k++) {
            for (int sign = 0; sign <= 128; sign += 128) {
                byte[] begin = Boxes.join(Boxes.u2(2), Boxes.bytes(1, told[k] + sign));
                byte[] numbers = new byte[2 * bytes[k]];
                numbers[numbers.length - 1] = 1;
                FileBoxes x = readThird("bits " + told[k], Boxes.box(Boxes.PALETTE, begin, numbers), map);
                check.due("number", x.number(1, 0), told[k] + sign == 128 ? -1 : 1);
                dueThird("a byte less", LENGTH, Boxes.box(Boxes.PALETTE, begin, Arrays.copyOf(numbers, numbers.length - 1)));
                dueThird("a byte more", LENGTH, Boxes.box(Boxes.PALETTE, begin, Arrays.copyOf(numbers, numbers.length + 1)));
            }
        }
    }

    private static void dueNumber(int bits, long v, int... number) {
        FileBoxes x = readThird("bits " + bits, Boxes.box(Boxes.PALETTE, Boxes.bytes(0, 1, 1, bits), Boxes.bytes(number)),
                Boxes.box(Boxes.MAP, Boxes.bytes(0, 0, 1, 0)));
        check.due("bits " + bits + ", number", x.number(0, 0), v);
        check.due("bits " + bits + ", shown", x.shown(0, 0), v);
    }

    private static void signs() {
        dueNumber(128, -1, 1);
        dueNumber(128, 0, 0);
        dueNumber(129, -2, 2);
        dueNumber(129, 1, 1);
        dueNumber(135, -128, 128);
        dueNumber(135, 127, 127);
        dueNumber(7, 128, 128);
        dueNumber(136, -256, 1, 0);
        dueNumber(136, 255, 0, 255);
        dueNumber(159, -(1L << 31), 128, 0, 0, 0);
        dueNumber(31, 1L << 31, 128, 0, 0, 0);
        dueNumber(160, -(1L << 32), 1, 0, 0, 0, 0);
        dueNumber(165, -(1L << 37), 0x20, 0, 0, 0, 0);
        dueNumber(165, (1L << 37) - 1, 0x1F, 255, 255, 255, 255);
        dueNumber(37, (1L << 38) - 1, 0x3F, 255, 255, 255, 255);
    }

    private static void bitsAbove() {
        dueNumber(0, 0, 0xFE);
        dueNumber(0, 1, 0xFF);
        dueNumber(128, 0, 0xFE);
        dueNumber(128, -1, 0xFF);
        dueNumber(8, 1, 0xFE, 1);
        dueNumber(136, 1, 0xFE, 1);
        dueNumber(136, -255, 0xFF, 1);
        dueNumber(37, 0, 0xC0, 0, 0, 0, 0);
        dueNumber(165, 0, 0xC0, 0, 0, 0, 0);
        dueNumber(165, -1, 0xFF, 255, 255, 255, 255);
    }

    private static void channelsOfMap() {
        dueBehind(PALETTE, "none", LENGTH, Boxes.box(Boxes.MAP));
        check.due("one", readThird("one", PALETTE, MAP).get(9, 0), 1);
        byte[] sixteen = new byte[64];
        sixteen[61] = 2;
        FileBoxes x = readThird("16", PALETTE, Boxes.box(Boxes.MAP, sixteen));
        check.due("16", x.get(9, 0), 16);
        check.due("the last one", x.get(23, 15), 2);
        dueBehind(PALETTE, "17", GREAT, Boxes.box(Boxes.MAP, new byte[68]));
    }

    private static void ways() {
        FileBoxes x = readThird("0 and 1", PALETTE, Boxes.box(Boxes.MAP, Boxes.bytes(0, 0, 0, 0, 0, 0, 1, 0, 0, 0, 1, 1)));
        check.due("as it is", x.get(24, 0), 0);
        check.due("by the palette", x.get(24, 2), 1);
        check.due("column", x.get(25, 2), 1);
        for (int way : new int[] {2, 3, 128, 255}) {
            dueBehind(PALETTE, "way " + way, VALUE, Boxes.box(Boxes.MAP, Boxes.bytes(0, 0, way, 0)));
            dueBehind(PALETTE, "way " + way, VALUE, Boxes.box(Boxes.MAP, Boxes.bytes(0, 0, 0, 0, 0, 0, way, 1)));
        }
    }

    private static void noLines() {
        check.due("lines", readThird("0", channelsOf(0)).get(10, 0), 0);
        check.due("lines", readThird("1", channelsOf(1, 2, 0, 0)).get(10, 0), 1);
        dueThird("0, but a line", LENGTH, channelsOf(0, 0, 0, 0));
        dueThird("1, but no line", LENGTH, channelsOf(1));
    }

    private static void types() {
        for (int type : new int[] {0, 1, 2, 65535}) {
            for (int to : new int[] {0, 1, 65534, 65535}) {
                FileBoxes x = readThird("type " + type, channelsOf(1, 0, type, to));
                check.due("type", x.get(27, 0), type);
                check.due("to", x.get(28, 0), to);
            }
        }
        for (int type : new int[] {3, 255, 256, 32768, 65534}) {
            dueThird("type " + type, VALUE, channelsOf(1, 0, type, 0));
            dueThird("type " + type + " behind another", VALUE, channelsOf(2, 0, 0, 0, 1, type, 0));
        }
    }

    private static void ratios() {
        for (int name : new int[] {Boxes.CAPTURE, Boxes.DISPLAY}) {
            int from = name == Boxes.CAPTURE ? 30 : 40;
            FileBoxes x = readThird("edges", Boxes.box(Boxes.RESOLUTION, ratio(name, 1, 65535, 65535, 1, 0, 0)));
            check.due("down", x.get(from, 0), 1);
            check.due("of so many", x.get(from + 1, 0), 65535);
            check.due("across", x.get(from + 2, 0), 65535);
            check.due("of so many", x.get(from + 3, 0), 1);
            for (int k = 0; k < 4; k++) {
                int[] numbers = {256, 256, 256, 256, 1, 1};
                numbers[k] = 0;
                dueInResolution("number " + k + " is 0", VALUE, new byte[0], ratio(name, numbers));
            }
        }
    }

    private static void powers() {
        int[] bytes = {0, 1, 127, 128, 129, 255};
        int[] told = {0, 1, 127, -128, -127, -1};
        for (int k = 0; k < bytes.length; k++) {
            FileBoxes x = readThird("power", Boxes.box(Boxes.RESOLUTION, ratio(Boxes.CAPTURE, 1, 1, 1, 1, bytes[k], 0),
                    ratio(Boxes.DISPLAY, 1, 1, 1, 1, 0, bytes[k])));
            check.due("of capture, down", x.get(34, 0), told[k]);
            check.due("of display, across", x.get(45, 0), told[k]);
        }
    }

    private static void otherNames() {
        for (int name : new int[] {0, 1, -1, Boxes.OTHER, Boxes.SIGN + 1, Boxes.SIZE + 256, MOST, Integer.MIN_VALUE}) {
            byte[] box = Boxes.box(name, Boxes.bytes(0, 0, 0));
            read("in the file", Boxes.file(box, box, HEAD, box, STREAM, box, box));
            readThird("in HEAD", box, box, Boxes.box(Boxes.RESOLUTION, box, box));
        }
    }

    private static void namesElsewhere() {
        int[] ofHead = {Boxes.BITS, Boxes.COLOUR, Boxes.PALETTE, Boxes.MAP, Boxes.CHANNELS, Boxes.RESOLUTION};
        int[] ofResolution = {Boxes.CAPTURE, Boxes.DISPLAY};
        for (int name : ofHead) {
            byte[] box = Boxes.box(name, Boxes.bytes(1));
            read("in the file", Boxes.file(box, HEAD, box, STREAM, box, box));
            readThird("in RESOLUTION", Boxes.box(Boxes.RESOLUTION, box, box));
        }
        for (int name : ofResolution) {
            byte[] box = Boxes.box(name, Boxes.bytes(1));
            read("in the file", Boxes.file(box, HEAD, box, STREAM, box, box));
            readThird("in HEAD", box, box);
            check.due("it tells nothing", readThird("in HEAD", ratio(name, 1, 2, 3, 4, 5, 6)).get(name == Boxes.CAPTURE ? 30 : 40, 0), 0);
        }
        due("nor colours outside", Boxes.file(Boxes.colour(16), Boxes.head(Boxes.size(5, 6, 3, 7)), STREAM), MISSING, 47);
    }

    private static void sizeElsewhere() {
        byte[] size = Boxes.size(0, 0, 0, 99);
        read("in the file", Boxes.file(size, HEAD, size, STREAM, size));
        readThird("in RESOLUTION", Boxes.box(Boxes.RESOLUTION, size, size));
        dueThird("the second one in HEAD", WRONG, Boxes.size(5, 6, 3, 7));
    }

    private static void headOnce() {
        read("behind others", Boxes.file(OTHER, OTHER, HEAD, OTHER, STREAM));
        due("twice", Boxes.file(HEAD, HEAD, STREAM), TWICE, 77);
        due("behind STREAM alone", Boxes.file(STREAM, HEAD), MISSING, 32);
        due("behind STREAM again", Boxes.file(HEAD, STREAM, HEAD), WRONG, 87);
    }

    private static void firstStreamCounts() {
        FileBoxes x = read("two", Boxes.file(HEAD, Boxes.stream(), OTHER, STREAM));
        check.due("place", x.stream(0), 85);
        check.due("how many", x.stream(1), 0);
        x = read("the last one up to the end", Boxes.file(HEAD, STREAM, Boxes.boxOfLength(0, Boxes.STREAM, Boxes.bytes(1))));
        check.due("place", x.stream(0), 85);
        check.due("how many", x.stream(1), 2);
    }

    private static void sizeFirst() {
        due("nothing", Boxes.file(Boxes.box(Boxes.HEAD), STREAM), MISSING, HEAD_AT);
        due("COLOUR", Boxes.file(Boxes.head(Boxes.colour(16), Boxes.size(5, 6, 3, 7)), STREAM), WRONG, SIZE_AT);
        due("another", Boxes.file(Boxes.head(OTHER, Boxes.size(5, 6, 3, 7), Boxes.colour(16)), STREAM), WRONG, SIZE_AT);
    }

    private static void anyOrder() {
        byte[][] boxes = {Boxes.box(Boxes.BITS, Boxes.bytes(1, 130, 3)), Boxes.colour(17), PALETTE, MAP,
            channelsOf(1, 0, 1, 2), Boxes.box(Boxes.RESOLUTION, ratio(Boxes.DISPLAY, 1, 2, 3, 4, 5, 6))};
        List<List<Integer>> orders = new ArrayList<>();
        allOrders(new ArrayList<>(), boxes.length, orders);
        check.due("orders", orders.size(), 720);
        for (List<Integer> order : orders) {
            byte[] content = Boxes.size(5, 6, 3, 255);
            int mapAt = 0;
            for (int k : order) {
                mapAt = k == 3 ? SIZE_AT + content.length : mapAt;
                content = Boxes.join(content, boxes[k]);
            }
            byte[] file = Boxes.file(Boxes.head(content), STREAM);
            if (order.indexOf(3) < order.indexOf(2)) {
                due("order " + order, file, WRONG, mapAt);
            } else {
                FileBoxes x = read("order " + order, file);
                check.due("bits", x.get(20, 1), 130);
                check.due("map", x.get(25, 0), 1);
                check.due("to", x.get(28, 0), 2);
                check.due("display", x.get(45, 0), 6);
            }
        }
    }

    private static void allOrders(List<Integer> begun, int count, List<List<Integer>> all) {
        if (begun.size() == count) {
            all.add(new ArrayList<>(begun));
        }
        for (int k = 0; k < count; k++) {
            if (!begun.contains(k)) {
                begun.add(k);
                allOrders(begun, count, all);
                begun.remove(begun.size() - 1);
            }
        }
    }

    private static void colourOften() {
        byte[] colours = Boxes.join(Collections.nCopies(10, Boxes.colour(18)).toArray(new byte[0][]));
        check.due("the first one", readThird("ten more", colours).get(5, 0), 16);
    }

    private static void channels() {
        byte[] three = channelsOf(1, 2, 0, 0);
        byte[] four = channelsOf(1, 3, 0, 0);
        byte[] mapOfFour = Boxes.box(Boxes.MAP, new byte[16]);
        readThird("the last component", three);
        due("one more", Boxes.file(Boxes.headWith(four), STREAM), VALUE, HEAD_AT);
        FileBoxes x = readThird("the last of the map", four, PALETTE, mapOfFour);
        check.due("is shown", x.shown(3, 7), 7);
        due("a component that the map hasn't", Boxes.file(Boxes.headWith(three, PALETTE, MAP), STREAM), VALUE, HEAD_AT);
        due("one more than in the map", Boxes.file(Boxes.headWith(channelsOf(1, 4, 0, 0), PALETTE, mapOfFour), STREAM), VALUE, HEAD_AT);
    }

    private static void lessThanEight() {
        for (int count = 1; count < 8; count++) {
            byte[] few = Arrays.copyOf(Boxes.boxOfLength(8, Boxes.OTHER), count);
            due("first", Arrays.copyOf(Boxes.sign(), count), CUT, 0);
            due("second", Boxes.join(Boxes.sign(), Arrays.copyOf(Boxes.kind(), count)), CUT, 12);
            due("in the file", Boxes.file(few), CUT, 32);
            due("behind STREAM", Boxes.file(HEAD, STREAM, few), CUT, 87);
            due("first in HEAD", Boxes.file(Boxes.head(few), STREAM), CUT, SIZE_AT);
            dueThird("in HEAD", CUT, few);
            dueInResolution("in RESOLUTION", CUT, new byte[0], few);
            dueInResolution("behind one in RESOLUTION", CUT, OTHER, few);
            due("zeros", Boxes.file(HEAD, STREAM, new byte[count]), CUT, 87);
        }
    }

    private static void lessThanSixteen() {
        for (int count = 8; count < 16; count++) {
            byte[] few = Arrays.copyOf(Boxes.farBox(Boxes.OTHER), count);
            due("first", Arrays.copyOf(Boxes.farBox(Boxes.SIGN, Boxes.u4(0x0D0A870A)), count), CUT, 0);
            due("in the file", Boxes.file(few), CUT, 32);
            due("STREAM", Boxes.file(HEAD, Arrays.copyOf(Boxes.farBox(Boxes.STREAM), count)), CUT, 77);
            dueThird("in HEAD", CUT, few);
            dueInResolution("in RESOLUTION", CUT, new byte[0], few);
        }
        // The bytes behind HEAD would make the U8 a good one.
        due("beyond HEAD", Boxes.file(Boxes.headWith(Boxes.u4(1, 0)), Boxes.number(16, 8), STREAM), CUT, THIRD_AT);
    }

    private static void noneWhereOneMustBe() {
        due("an empty file", new byte[0], CUT, 0);
        due("SIGN alone", Boxes.sign(), CUT, 12);
        due("nothing behind KIND", Boxes.file(), MISSING, 32);
        readThird("an empty RESOLUTION", Boxes.box(Boxes.RESOLUTION));
        read("nothing behind STREAM", Boxes.file(HEAD, STREAM));
    }

    private static void beyond() {
        byte[] content = Boxes.u4(0x0D0A870A);
        due("SIGN", Boxes.boxOfLength(13, Boxes.SIGN, content), CUT, 0);
        for (int k = 0; k < 3; k++) {
            byte[] file = Boxes.file(HEAD, STREAM);
            file[k] = 1;
            due("SIGN by byte " + k, file, CUT, 0);
        }
        due("KIND", Boxes.join(Boxes.sign(), Boxes.boxOfLength(21, Boxes.KIND, Boxes.u4(0, 0, 0x6A703220))), CUT, 12);
        for (long length : new long[] {9, 1L << 16, 1L << 31, (1L << 31) + 8, 0xFFFFFFFFL}) {
            byte[] box = Boxes.boxOfLength(length, 0);
            due("in the file, " + length, Boxes.file(HEAD, STREAM, box), CUT, 87);
            dueThird("in HEAD, " + length, CUT, box);
            dueInResolution("in RESOLUTION, " + length, CUT, new byte[0], box);
        }
        due("HEAD", Boxes.file(Boxes.boxOfLength(46, Boxes.HEAD, Boxes.size(5, 6, 3, 7), Boxes.colour(16))), CUT, HEAD_AT);
        due("RESOLUTION beyond HEAD", Boxes.file(Boxes.headWith(Boxes.boxOfLength(9, Boxes.RESOLUTION)), STREAM), CUT, THIRD_AT);
        due("beyond RESOLUTION alone", Boxes.file(Boxes.headWith(
                Boxes.box(Boxes.RESOLUTION, Boxes.boxOfLength(16, 0)), OTHER), STREAM), CUT, THIRD_AT + 8);
        FileBoxes x = new FileBoxes();
        x.size(1, 1, 1, 7, false, false);
        x.colours(16);
        x.write(2, false);
        x.put(1);
        dueScan("a byte too few", x, CUT, 77);
        x.put(2);
        dueScan("enough", x, 0, -1);
        x.put(3);
        dueScan("a byte too many", x, CUT, 87);
    }

    /** Every beginning of a file that has all boxes is refused: in a box as cut, between them by what lacks. */
    private static void everyBeginning() {
        byte[] head = Boxes.headWith(PALETTE, MAP, channelsOf(1, 0, 1, 2),
                Boxes.box(Boxes.RESOLUTION, ratio(Boxes.CAPTURE, 1, 2, 3, 4, 5, 6)));
        byte[] file = Boxes.file(head, OTHER, STREAM);
        int otherAt = HEAD_AT + head.length;
        int[] starts = {0, 12, HEAD_AT, otherAt, otherAt + 8, file.length};
        int[] numbers = {CUT, CUT, MISSING, MISSING, MISSING, 0};
        for (int count = 0; count <= file.length; count++) {
            int box = 0;
            while (box + 1 < starts.length && starts[box + 1] <= count) {
                box++;
            }
            boolean between = starts[box] == count;
            int number = between ? numbers[box] : CUT;
            due("the first " + count + " bytes", Arrays.copyOf(file, count), number, number == 0 ? -1 : starts[box]);
        }
    }

    private static void ownPlace() {
        due("in HEAD", Boxes.file(OTHER, Boxes.headWith(OTHER, Boxes.boxOfLength(9, 0)), STREAM), CUT, 8 + THIRD_AT + 8);
        due("in RESOLUTION", Boxes.file(OTHER, Boxes.headWith(OTHER,
                Boxes.box(Boxes.RESOLUTION, OTHER, Boxes.boxOfLength(9, 0))), STREAM), CUT, 8 + THIRD_AT + 8 + 16);
        due("of far ones", Boxes.file(Boxes.farBox(Boxes.HEAD, Boxes.size(5, 6, 3, 7), Boxes.colour(16),
                Boxes.farBox(Boxes.RESOLUTION, Boxes.boxOfLength(9, 0))), STREAM), CUT, THIRD_AT + 8 + 16);
        due("behind RESOLUTION", Boxes.file(Boxes.headWith(Boxes.box(Boxes.RESOLUTION, OTHER), Boxes.boxOfLength(9, 0)), STREAM), CUT, THIRD_AT + 16);
    }

    private static void belowEight() {
        for (int length = 2; length < 8; length++) {
            due("SIGN", Boxes.boxOfLength(length, Boxes.SIGN, Boxes.u4(0x0D0A870A)), LENGTH, 0);
            due("KIND", Boxes.join(Boxes.sign(), Boxes.boxOfLength(length, Boxes.KIND, new byte[12])), LENGTH, 12);
            due("in the file", Boxes.file(Boxes.boxOfLength(length, 0)), LENGTH, 32);
            due("SIZE", Boxes.file(Boxes.head(Boxes.boxOfLength(length, Boxes.SIZE, new byte[14])), STREAM), LENGTH, SIZE_AT);
            dueThird("in HEAD", LENGTH, Boxes.boxOfLength(length, 0));
            dueInResolution("in RESOLUTION", LENGTH, new byte[0], Boxes.boxOfLength(length, Boxes.CAPTURE, new byte[10]));
        }
    }

    private static void belowSixteen() {
        for (int length = 0; length < 16; length++) {
            byte[] far = Boxes.join(Boxes.u4(1, Boxes.OTHER), Boxes.number(length, 8), new byte[9]);
            due("in the file", Boxes.file(far), LENGTH, 32);
            dueThird("in HEAD", LENGTH, far);
            dueInResolution("in RESOLUTION", LENGTH, OTHER, far);
            due("SIGN", Boxes.join(Boxes.u4(1, Boxes.SIGN), Boxes.number(length, 8)), LENGTH, 0);
        }
    }

    private static void noughtWithin() {
        due("SIZE", Boxes.file(Boxes.head(Boxes.boxOfLength(0, Boxes.SIZE, new byte[14]))), LENGTH, SIZE_AT);
        dueThird("the last one in HEAD", LENGTH, Boxes.boxOfLength(0, Boxes.OTHER));
        dueThird("RESOLUTION", LENGTH, Boxes.boxOfLength(0, Boxes.RESOLUTION));
        dueInResolution("the last one in RESOLUTION", LENGTH, OTHER, Boxes.boxOfLength(0, Boxes.OTHER));
        due("in a HEAD of length 0", Boxes.file(Boxes.boxOfLength(0, Boxes.HEAD, Boxes.boxOfLength(0, Boxes.SIZE))), LENGTH, SIZE_AT);
    }

    private static void notSignFirst() {
        for (int name : new int[] {Boxes.KIND, Boxes.HEAD, Boxes.STREAM, Boxes.OTHER, Boxes.SIZE, Boxes.SIGN + 1, 0}) {
            due("first " + name, Boxes.join(Boxes.box(name), Boxes.file(HEAD, STREAM)), WRONG, 0);
        }
        due("eight zeros", new byte[8], WRONG, 0);
    }

    private static void notKindSecond() {
        for (int name : new int[] {Boxes.SIGN, Boxes.HEAD, Boxes.STREAM, Boxes.OTHER, Boxes.KIND + 1, 0}) {
            due("second " + name, Boxes.join(Boxes.sign(), Boxes.box(name), Boxes.kind(), HEAD, STREAM), WRONG, 12);
        }
    }

    private static void elsewhere() {
        for (int name : new int[] {Boxes.SIGN, Boxes.KIND}) {
            byte[] box = name == Boxes.SIGN ? Boxes.sign() : Boxes.kind();
            due("third", Boxes.file(box, HEAD, STREAM), WRONG, 32);
            due("behind HEAD", Boxes.file(HEAD, box, STREAM), WRONG, 77);
            due("behind STREAM", Boxes.file(HEAD, STREAM, box), WRONG, 87);
        }
        for (int name : new int[] {Boxes.SIGN, Boxes.KIND, Boxes.HEAD, Boxes.STREAM}) {
            byte[] box = Boxes.box(name, Boxes.bytes(1, 2));
            due("first in HEAD", Boxes.file(Boxes.head(box), STREAM), WRONG, SIZE_AT);
            dueThird("in HEAD", WRONG, box);
            dueInResolution("in RESOLUTION", WRONG, new byte[0], box);
            dueInResolution("behind one in RESOLUTION", WRONG, ratio(Boxes.CAPTURE, 1, 1, 1, 1, 0, 0), box);
        }
    }

    private static void headBehindStream() {
        due("HEAD", Boxes.file(HEAD, STREAM, HEAD), WRONG, 87);
        due("an empty HEAD", Boxes.file(HEAD, STREAM, OTHER, STREAM, Boxes.box(Boxes.HEAD)), WRONG, 105);
    }

    private static void notSizeFirst() {
        for (int name : new int[] {Boxes.BITS, Boxes.COLOUR, Boxes.PALETTE, Boxes.MAP, Boxes.CHANNELS, Boxes.RESOLUTION,
            Boxes.CAPTURE, Boxes.OTHER, 0}) {
            due("first in HEAD " + name, Boxes.file(Boxes.head(Boxes.box(name), Boxes.size(5, 6, 3, 7), Boxes.colour(16)), STREAM), WRONG, SIZE_AT);
        }
    }

    private static void secondSize() {
        byte[] size = Boxes.size(5, 6, 3, 7);
        due("at once", Boxes.file(Boxes.head(size, size, Boxes.colour(16)), STREAM), WRONG, SECOND_AT);
        dueThird("behind COLOUR", WRONG, size);
        dueThird("an empty one", WRONG, Boxes.box(Boxes.SIZE));
        dueBehind(Boxes.box(Boxes.RESOLUTION, OTHER), "behind RESOLUTION", WRONG, size);
    }

    private static void bitsUnasked() {
        for (int bits : new int[] {0, 7, 37, 128, 165}) {
            dueSecond("bits " + bits, WRONG, Boxes.size(5, 6, 3, bits), Boxes.box(Boxes.BITS, Boxes.bytes(bits, bits, bits)));
        }
        read("255", Boxes.file(Boxes.head(Boxes.size(5, 6, 3, 255), Boxes.box(Boxes.BITS, Boxes.bytes(7, 7, 7)), Boxes.colour(16)), STREAM));
    }

    private static void mapAhead() {
        due("at once", Boxes.file(Boxes.headWith(MAP, PALETTE), STREAM), WRONG, THIRD_AT);
        due("with another between", Boxes.file(Boxes.headWith(MAP, OTHER, PALETTE), STREAM), WRONG, THIRD_AT);
        dueThird("without any", WRONG, MAP);
    }

    private static void dueLengths(String what, int... counts) {
        for (int count : counts) {
            byte[] content = new byte[count];
            Arrays.fill(content, (byte) 1);
            dueInResolution(what + " CAPTURE of " + count, LENGTH, new byte[0], Boxes.box(Boxes.CAPTURE, content));
            dueInResolution(what + " DISPLAY of " + count, LENGTH, OTHER, Boxes.box(Boxes.DISPLAY, content));
        }
        readThird("10 of both", Boxes.box(Boxes.RESOLUTION, ratio(Boxes.CAPTURE, 1, 1, 1, 1, 1, 1), ratio(Boxes.DISPLAY, 1, 1, 1, 1, 1, 1)));
    }

    private static void lengthOfSize() {
        for (int count : new int[] {0, 1, 13, 15, 28}) {
            byte[] content = Arrays.copyOf(Arrays.copyOfRange(Boxes.size(5, 6, 3, 7), 8, 22), count);
            due("SIZE of " + count, Boxes.file(Boxes.head(Boxes.box(Boxes.SIZE, content), Boxes.colour(16)), STREAM), LENGTH, SIZE_AT);
        }
    }

    private static void lengthOfBits() {
        for (int components : new int[] {1, 3, 16}) {
            for (int count : new int[] {0, components - 1, components + 1, 2 * components}) {
                dueSecond(count + " of " + components, LENGTH, Boxes.size(5, 6, components, 255), Boxes.box(Boxes.BITS, new byte[count]));
            }
        }
    }

    private static void lengthOfColour() {
        for (int method : new int[] {0, 1, 2, 3, 255}) {
            for (int count = 0; count < 4; count++) {
                dueThird("method " + method, LENGTH, Boxes.box(Boxes.COLOUR, Arrays.copyOf(Boxes.bytes(method, 0, 0, 0), count)));
            }
        }
        for (int count : new int[] {4, 5, 6, 8, 11}) {
            byte[] content = Arrays.copyOf(Boxes.bytes(1, 0, 0, 0, 0, 0, 16), count);
            dueThird("method 1 of " + count, LENGTH, Boxes.box(Boxes.COLOUR, content));
            due("the first one of " + count, fileOfColours(Boxes.box(Boxes.COLOUR, content)), LENGTH, SECOND_AT);
        }
        for (int count = 4; count <= 12; count++) {
            readThird("method 2 of " + count, Boxes.box(Boxes.COLOUR, Arrays.copyOf(Boxes.bytes(2), count)));
            readThird("method 3 of " + count, Boxes.box(Boxes.COLOUR, Arrays.copyOf(Boxes.bytes(3), count)));
        }
    }

    private static void lengthOfPalette() {
        for (int count = 0; count < 3; count++) {
            dueThird("of " + count, LENGTH, Boxes.box(Boxes.PALETTE, new byte[count]));
        }
        dueThird("no bits", LENGTH, Boxes.palette(1, 1));
        dueThird("bits of one column of two", LENGTH, Boxes.palette(1, 2, 7));
        dueThird("bits of 254 columns of 255", LENGTH, Boxes.box(Boxes.PALETTE, Boxes.bytes(0, 0, 255), new byte[254]));
        dueThird("no numbers", LENGTH, Boxes.palette(1, 2, 7, 7));
        dueThird("one number of two", LENGTH, Boxes.palette(1, 2, 7, 7, 0));
        dueThird("three numbers of two", LENGTH, Boxes.palette(1, 2, 7, 7, 0, 0, 0));
        dueThird("three numbers of four", LENGTH, Boxes.palette(2, 2, 7, 7, 0, 0, 0));
        dueThird("a number for no entries", LENGTH, Boxes.palette(0, 2, 7, 7, 0));
        dueThird("a byte for no columns", LENGTH, Boxes.palette(1, 0, 0));
        dueThird("wide and narrow", LENGTH, Boxes.palette(1, 2, 7, 8, 0, 0));
        dueThird("65535 entries of 255 columns", LENGTH, Boxes.box(Boxes.PALETTE, Boxes.bytes(255, 255, 255), new byte[255]));
        // 32768 * 16 is 0 in 16 bits.
        dueThird("32768 entries of 16 bytes", LENGTH, Boxes.palette(32768, 1, 127));
    }

    private static void lengthOfMap() {
        for (int count : new int[] {0, 1, 2, 3, 5, 6, 7, 9, 63, 65}) {
            dueBehind(PALETTE, "of " + count, LENGTH, Boxes.box(Boxes.MAP, new byte[count]));
        }
    }

    private static void lengthOfChannels() {
        for (int count = 0; count < 2; count++) {
            dueThird("of " + count, LENGTH, Boxes.box(Boxes.CHANNELS, new byte[count]));
        }
        for (int count : new int[] {0, 1, 5, 7, 12}) {
            dueThird("one line of " + count, LENGTH, Boxes.box(Boxes.CHANNELS, Boxes.u2(1), new byte[count]));
        }
        dueThird("no line of 1", LENGTH, Boxes.box(Boxes.CHANNELS, Boxes.u2(0), new byte[1]));
        dueThird("65535 lines", LENGTH, channelsOf(65535, 0, 0, 0));
        // 6 * 32769 is 6 in 16 bits.
        dueThird("32769 lines", LENGTH, channelsOf(32769, 0, 0, 0));
    }

    private static void lengthOfSignAndKind() {
        for (int count : new int[] {0, 3, 5, 8}) {
            byte[] content = Arrays.copyOf(Boxes.u4(0x0D0A870A), count);
            due("SIGN of " + count, Boxes.join(Boxes.box(Boxes.SIGN, content), Boxes.kind(), HEAD, STREAM), LENGTH, 0);
        }
        for (int count : new int[] {0, 4, 8, 9, 10, 11, 13, 14, 15, 17, 18, 19}) {
            byte[] content = Arrays.copyOf(Boxes.u4(0x6A703220, 0, 0x6A703220), count);
            due("KIND of " + count, Boxes.join(Boxes.sign(), Boxes.box(Boxes.KIND, content), HEAD, STREAM), LENGTH, 12);
        }
        for (int count : new int[] {12, 16, 20, 24}) {
            byte[] content = Arrays.copyOf(Boxes.u4(0x6A703220, 0, 0x6A703220), count);
            read("KIND of " + count, Boxes.join(Boxes.sign(), Boxes.box(Boxes.KIND, content), HEAD, STREAM));
        }
    }

    private static void twoHeads() {
        due("at once", Boxes.file(HEAD, HEAD, STREAM), TWICE, 77);
        due("an empty one", Boxes.file(HEAD, OTHER, Boxes.box(Boxes.HEAD), STREAM), TWICE, 85);
        due("one with nonsense in it", Boxes.file(HEAD, Boxes.box(Boxes.HEAD, Boxes.bytes(1)), STREAM), TWICE, 77);
    }

    private static void twoInHead() {
        byte[] bits = Boxes.box(Boxes.BITS, Boxes.bytes(1, 2, 3));
        due("BITS", Boxes.file(Boxes.head(Boxes.size(5, 6, 3, 255), bits, bits, Boxes.colour(16)), STREAM), TWICE, SECOND_AT + 11);
        dueBehind(PALETTE, "PALETTE", TWICE, PALETTE);
        dueBehind(Boxes.join(PALETTE, MAP), "PALETTE behind MAP", TWICE, PALETTE);
        dueBehind(Boxes.join(PALETTE, MAP), "MAP", TWICE, MAP);
        dueBehind(channelsOf(0), "CHANNELS", TWICE, channelsOf(0));
        dueBehind(channelsOf(0), "CHANNELS that tells a line", TWICE, channelsOf(1, 0, 0, 0));
        byte[] resolution = Boxes.box(Boxes.RESOLUTION, OTHER);
        dueBehind(resolution, "RESOLUTION", TWICE, resolution);
        dueBehind(Boxes.box(Boxes.RESOLUTION), "an empty RESOLUTION", TWICE, Boxes.box(Boxes.RESOLUTION));
    }

    private static void twoInResolution() {
        byte[] capture = ratio(Boxes.CAPTURE, 1, 2, 3, 4, 5, 6);
        byte[] display = ratio(Boxes.DISPLAY, 1, 2, 3, 4, 5, 6);
        dueInResolution("CAPTURE", TWICE, capture, capture);
        dueInResolution("DISPLAY", TWICE, display, display);
        dueInResolution("CAPTURE behind DISPLAY", TWICE, Boxes.join(capture, display), capture);
        readThird("one of each", Boxes.box(Boxes.RESOLUTION, display, capture));
    }

    private static void greatComponents() {
        for (int components : new int[] {17, 255, 256, 257, 32768, 65535}) {
            due("components " + components, fileOfSize(Boxes.size(5, 6, components, 7)), GREAT, SIZE_AT);
        }
        check.due("16", read("16", fileOfSize(Boxes.size(5, 6, 16, 7))).get(2, 0), 16);
    }

    private static void greatChannels() {
        readThird("16 in both", linesOf(16, 0), PALETTE, Boxes.box(Boxes.MAP, new byte[64]));
        dueBehind(PALETTE, "17 in MAP", GREAT, Boxes.box(Boxes.MAP, new byte[68]));
        dueThird("17 in CHANNELS", GREAT, linesOf(17, 0));
        dueThird("40 in CHANNELS", GREAT, linesOf(40, 65535));
    }

    private static void greatColumns() {
        byte[] eight = Boxes.box(Boxes.PALETTE, Boxes.bytes(0, 1, 8), new byte[16]);
        check.due("8", readThird("8", eight, MAP).get(8, 0), 8);
        dueThird("9", GREAT, Boxes.box(Boxes.PALETTE, Boxes.bytes(0, 1, 9), new byte[18]));
        dueThird("128", GREAT, Boxes.box(Boxes.PALETTE, Boxes.bytes(0, 1, 128), new byte[256]));
        dueThird("255 without entries", GREAT, Boxes.box(Boxes.PALETTE, Boxes.bytes(0, 0, 255), new byte[255]));
    }

    private static void greatNumbers() {
        dueLongPalette(512, 8, 0);
        dueLongPalette(1024, 4, 0);
        dueLongPalette(819, 5, 0);
        dueLongPalette(513, 8, GREAT);
        dueLongPalette(820, 5, GREAT);
        dueLongPalette(1024, 5, GREAT);
        dueLongPalette(1025, 4, GREAT);
        dueLongPalette(4097, 1, GREAT);
    }

    private static void greatProfile() {
        for (int bytes : new int[] {1023, 1024, 1025, 2000}) {
            FileBoxes x = ScanTest.withLongProfile(bytes);
            dueScan("profile of " + bytes, x, bytes > 1024 ? GREAT : 0, bytes > 1024 ? SECOND_AT : -1);
            if (bytes <= 1024) {
                check.due("how many", x.get(6, 0), bytes);
                check.due("the last one", x.get(21, bytes - 1), x.at(SECOND_AT + 11 + bytes - 1));
            }
            dueScan("that doesn't count", withLong(Boxes.COLOUR, Boxes.bytes(2, 0, 0), bytes, OTHER), 0, -1);
        }
    }

    private static void greatSides() {
        for (long side : new long[] {1L << 31, (1L << 31) + 1, (1L << 32) - 1}) {
            due("high " + side, fileOfSize(Boxes.size(side, 6, 3, 7)), GREAT, SIZE_AT);
            due("wide " + side, fileOfSize(Boxes.size(5, side, 3, 7)), GREAT, SIZE_AT);
        }
        FileBoxes x = read("2^31 - 1", fileOfSize(Boxes.size(MOST, MOST, 3, 7)));
        check.due("high", x.get(0, 0), MOST);
        check.due("wide", x.get(1, 0), MOST);
    }

    private static void noughtInSize() {
        due("high", fileOfSize(Boxes.size(0, 6, 3, 7)), VALUE, SIZE_AT);
        due("wide", fileOfSize(Boxes.size(5, 0, 3, 7)), VALUE, SIZE_AT);
        due("components", fileOfSize(Boxes.size(5, 6, 0, 7)), VALUE, SIZE_AT);
        due("components, with BITS", Boxes.file(Boxes.head(Boxes.size(5, 6, 0, 255), Boxes.box(Boxes.BITS), Boxes.colour(16)), STREAM), VALUE, SIZE_AT);
        FileBoxes x = read("1 each", fileOfSize(Boxes.size(1, 1, 1, 7)));
        check.due("high", x.get(0, 0), 1);
    }

    private static void mapOfNoComponent() {
        for (int component : new int[] {3, 15, 16, 255, 256, 65535}) {
            dueBehind(PALETTE, "component " + component, VALUE, Boxes.box(Boxes.MAP, Boxes.u2(component), Boxes.bytes(0, 0)));
            dueBehind(PALETTE, "by the palette", VALUE, Boxes.box(Boxes.MAP, Boxes.bytes(0, 0, 0, 0), Boxes.u2(component), Boxes.bytes(1, 0)));
        }
        readThird("the last one", PALETTE, Boxes.box(Boxes.MAP, Boxes.bytes(0, 2, 1, 0)));
    }

    private static void mapOfNoColumn() {
        for (int column : new int[] {2, 3, 128, 255}) {
            dueBehind(PALETTE, "column " + column, VALUE, Boxes.box(Boxes.MAP, Boxes.bytes(0, 0, 1, column)));
        }
        check.due("the last one", readThird("the last one", PALETTE, MAP).get(25, 0), 1);
    }

    private static void mapOfColumnAsItIs() {
        for (int column : new int[] {1, 2, 255}) {
            dueBehind(PALETTE, "column " + column, VALUE, Boxes.box(Boxes.MAP, Boxes.bytes(0, 0, 0, column)));
        }
    }

    private static void bitsOfPalette() {
        for (int b = 0; b < 256; b++) {
            byte[] palette = Boxes.box(Boxes.PALETTE, Boxes.bytes(0, 1, 1, b), new byte[(b % 128 + 8) / 8]);
            byte[] map = Boxes.box(Boxes.MAP, Boxes.bytes(0, 0, 1, 0));
            if (b % 128 <= 37) {
                check.due("bits " + b, readThird("bits " + b, palette, map).get(22, 0), b);
            } else {
                dueThird("bits " + b, VALUE, palette);
            }
        }
        dueThird("of the last column", VALUE, Boxes.palette(1, 2, 7, 38, 0, 0, 0, 0, 0, 0));
    }

    private static void streamWithoutHead() {
        due("at once", Boxes.file(STREAM), MISSING, 32);
        due("behind another", Boxes.file(OTHER, STREAM, HEAD, STREAM), MISSING, 40);
        due("up to the end", Boxes.file(Boxes.boxOfLength(0, Boxes.STREAM, HEAD)), MISSING, 32);
    }

    private static void noColour() {
        byte[] size = Boxes.size(5, 6, 3, 7);
        due("none", Boxes.file(Boxes.head(size), STREAM), MISSING, HEAD_AT);
        due("of other methods", Boxes.file(Boxes.head(size, colourOf(0, 0, 0, 1), colourOf(3, 0, 0, 1)), STREAM), MISSING, HEAD_AT);
        due("behind another box", Boxes.file(OTHER, Boxes.head(size), STREAM), MISSING, HEAD_AT + 8);
        due("in RESOLUTION", Boxes.file(Boxes.head(size, Boxes.box(Boxes.RESOLUTION, Boxes.colour(16))), STREAM), MISSING, HEAD_AT);
    }

    private static void noBits() {
        due("none", fileOfSize(Boxes.size(5, 6, 3, 255)), MISSING, HEAD_AT);
        due("in RESOLUTION", Boxes.file(Boxes.head(Boxes.size(5, 6, 3, 255), Boxes.colour(16),
                Boxes.box(Boxes.RESOLUTION, Boxes.box(Boxes.BITS, Boxes.bytes(7, 7, 7)))), STREAM), MISSING, HEAD_AT);
    }

    private static void noMap() {
        due("none", Boxes.file(Boxes.headWith(PALETTE), STREAM), MISSING, HEAD_AT);
        due("in RESOLUTION", Boxes.file(Boxes.headWith(PALETTE, Boxes.box(Boxes.RESOLUTION, MAP)), STREAM), MISSING, HEAD_AT);
        due("behind HEAD", Boxes.file(Boxes.headWith(PALETTE), MAP, STREAM), MISSING, HEAD_AT);
    }

    private static void noChannel() {
        for (int channel : new int[] {3, 16, 256, 32768, 65535}) {
            due("channel " + channel, Boxes.file(Boxes.headWith(channelsOf(2, 0, 0, 0, channel, 0, 0)), STREAM), VALUE, HEAD_AT);
        }
        readThird("the last one", channelsOf(1, 2, 0, 0));
        due("of the components", Boxes.file(Boxes.headWith(channelsOf(1, 1, 0, 0), PALETTE, MAP), STREAM), VALUE, HEAD_AT);
    }

    private static void channelTwice() {
        due("at once", Boxes.file(Boxes.headWith(channelsOf(2, 1, 0, 0, 1, 0, 0)), STREAM), VALUE, HEAD_AT);
        due("first and last", Boxes.file(Boxes.headWith(channelsOf(3, 2, 0, 0, 0, 0, 0, 2, 1, 1)), STREAM), VALUE, HEAD_AT);
        due("behind it nothing else is looked at", Boxes.file(Boxes.headWith(channelsOf(2, 1, 0, 0, 1, 0, 0)), Boxes.bytes(1)), VALUE, HEAD_AT);
        check.due("all of them once", readThird("once", channelsOf(3, 2, 0, 0, 0, 0, 0, 1, 0, 0)).get(10, 0), 3);
    }

    private static void noStream() {
        due("HEAD alone", Boxes.file(HEAD), MISSING, 77);
        due("with others", Boxes.file(OTHER, HEAD, OTHER), MISSING, 93);
        due("no HEAD either", Boxes.file(), MISSING, 32);
        due("nor with others", Boxes.file(OTHER), MISSING, 40);
        FileBoxes x = streamAtTheEnd();
        x.spoil(65535, 0);
        dueScan("a full file", x, MISSING, 65536);
    }

    private static void anything() {
        for (long any : new long[] {0, 1, 0xFFFFFFFFL, 0x6A703220}) {
            dueKind("first name", 0, any, 0, 0x6A703220);
            dueKind("version", 0, 0, any, 0x6A703220);
        }
        FileBoxes x = readThird("no resolution", Boxes.box(Boxes.RESOLUTION));
        check.due("no capture", x.get(30, 0) + x.get(40, 0), 0);
        x = readThird("display alone", Boxes.box(Boxes.RESOLUTION, ratio(Boxes.DISPLAY, 9, 1, 1, 1, 0, 0)));
        check.due("no capture", x.get(30, 0), 0);
        check.due("display", x.get(40, 0), 9);
        x = readThird("capture alone", Boxes.box(Boxes.RESOLUTION, ratio(Boxes.CAPTURE, 9, 1, 1, 1, 0, 0)));
        check.due("capture", x.get(30, 0), 9);
        check.due("no display", x.get(40, 0), 0);
    }

    private static void firstBox() {
        due("VALUE ahead of CUT behind it", Boxes.file(Boxes.head(Boxes.size(0, 6, 3, 7), Boxes.bytes(1)), STREAM), VALUE, SIZE_AT);
        due("HEAD itself ahead of what is in it", Boxes.file(Boxes.boxOfLength(99, Boxes.HEAD, Boxes.size(0, 6, 3, 7))), CUT, HEAD_AT);
        due("in HEAD ahead of its end", Boxes.file(Boxes.head(Boxes.size(5, 6, 3, 255), MAP), STREAM), WRONG, SECOND_AT);
        due("the end of HEAD ahead of what is behind", Boxes.file(Boxes.head(Boxes.size(5, 6, 3, 7)), Boxes.sign()), MISSING, HEAD_AT);
        due("in RESOLUTION ahead of what is behind", Boxes.file(Boxes.headWith(Boxes.box(Boxes.RESOLUTION,
                ratio(Boxes.CAPTURE, 0, 1, 1, 1, 0, 0)), MAP), STREAM), VALUE, THIRD_AT + 8);
        due("behind STREAM ahead of nothing", Boxes.file(HEAD, STREAM, Boxes.bytes(1)), CUT, 87);
    }

    private static void cutAheadOfWrong() {
        due("KIND first", Boxes.boxOfLength(21, Boxes.KIND, new byte[12]), CUT, 0);
        due("SIGN second", Boxes.join(Boxes.sign(), Boxes.boxOfLength(13, Boxes.SIGN, new byte[4])), CUT, 12);
        dueThird("STREAM in HEAD", CUT, Boxes.boxOfLength(9, Boxes.STREAM));
        dueThird("SIZE again", CUT, Boxes.boxOfLength(22, Boxes.SIZE, new byte[13]));
        due("HEAD behind STREAM", Boxes.file(HEAD, STREAM, Boxes.boxOfLength(9, Boxes.HEAD)), CUT, 87);
        due("HEAD twice", Boxes.file(HEAD, Boxes.boxOfLength(9, Boxes.HEAD)), CUT, 77);
    }

    private static void boxLengthAheadOfWrong() {
        due("KIND first", Boxes.boxOfLength(7, Boxes.KIND), LENGTH, 0);
        due("SIGN second", Boxes.join(Boxes.sign(), Boxes.boxOfLength(7, Boxes.SIGN)), LENGTH, 12);
        dueThird("STREAM in HEAD", LENGTH, Boxes.boxOfLength(0, Boxes.STREAM));
        dueThird("SIZE again", LENGTH, Boxes.boxOfLength(7, Boxes.SIZE));
        due("COLOUR first in HEAD", Boxes.file(Boxes.head(Boxes.boxOfLength(0, Boxes.COLOUR)), STREAM), LENGTH, SIZE_AT);
        due("HEAD behind STREAM", Boxes.file(HEAD, STREAM, Boxes.boxOfLength(7, Boxes.HEAD)), LENGTH, 87);
        due("HEAD twice", Boxes.file(HEAD, Boxes.boxOfLength(7, Boxes.HEAD)), LENGTH, 77);
        dueBehind(PALETTE, "PALETTE twice", LENGTH, Boxes.boxOfLength(7, Boxes.PALETTE));
    }

    private static void wrongAheadOfLength() {
        due("KIND first", Boxes.box(Boxes.KIND, new byte[3]), WRONG, 0);
        due("SIGN second", Boxes.join(Boxes.sign(), Boxes.box(Boxes.SIGN, new byte[3])), WRONG, 12);
        dueThird("SIGN in HEAD", WRONG, Boxes.box(Boxes.SIGN, new byte[3]));
        dueThird("SIZE again", WRONG, Boxes.box(Boxes.SIZE, new byte[13]));
        dueThird("BITS unasked", WRONG, Boxes.box(Boxes.BITS, new byte[2]));
        dueThird("MAP ahead of PALETTE", WRONG, Boxes.box(Boxes.MAP, new byte[3]));
        due("COLOUR first in HEAD", Boxes.file(Boxes.head(Boxes.box(Boxes.COLOUR)), STREAM), WRONG, SIZE_AT);
    }

    private static void wrongAheadOfTwice() {
        due("HEAD behind STREAM", Boxes.file(HEAD, STREAM, HEAD), WRONG, 87);
        dueThird("SIZE again", WRONG, Boxes.size(5, 6, 3, 7));
        due("SIGN again", Boxes.file(Boxes.sign()), WRONG, 32);
    }

    private static void lengthAheadOfTwice() {
        byte[] bits = Boxes.box(Boxes.BITS, Boxes.bytes(1, 2, 3));
        due("BITS", Boxes.file(Boxes.head(Boxes.size(5, 6, 3, 255), bits, Boxes.box(Boxes.BITS, new byte[4]))), LENGTH, SECOND_AT + 11);
        dueBehind(PALETTE, "PALETTE", LENGTH, Boxes.palette(1, 1, 7));
        dueBehind(Boxes.join(PALETTE, MAP), "MAP", LENGTH, Boxes.box(Boxes.MAP));
        dueBehind(channelsOf(0), "CHANNELS", LENGTH, channelsOf(1));
        byte[] capture = ratio(Boxes.CAPTURE, 1, 1, 1, 1, 0, 0);
        byte[] display = ratio(Boxes.DISPLAY, 1, 1, 1, 1, 0, 0);
        dueInResolution("CAPTURE", LENGTH, capture, Boxes.box(Boxes.CAPTURE, new byte[9]));
        dueInResolution("DISPLAY", LENGTH, display, Boxes.box(Boxes.DISPLAY, new byte[11]));
    }

    private static void lengthAheadOfGreat() {
        due("SIZE", Boxes.file(Boxes.head(Boxes.box(Boxes.SIZE, Boxes.u4(-1, -1, -1))), STREAM), LENGTH, SIZE_AT);
        dueThird("PALETTE", LENGTH, Boxes.box(Boxes.PALETTE, Boxes.bytes(255, 255, 9), new byte[9]));
        dueBehind(PALETTE, "MAP", LENGTH, Boxes.box(Boxes.MAP, new byte[69]));
        dueThird("CHANNELS", LENGTH, channelsOf(17));
    }

    private static void lengthAheadOfValue() {
        due("SIGN", Boxes.box(Boxes.SIGN, new byte[5]), LENGTH, 0);
        due("KIND", Boxes.join(Boxes.sign(), Boxes.box(Boxes.KIND, new byte[13])), LENGTH, 12);
        due("SIZE", Boxes.file(Boxes.head(Boxes.box(Boxes.SIZE, new byte[13])), STREAM), LENGTH, SIZE_AT);
        dueSecond("BITS", LENGTH, Boxes.size(5, 6, 3, 255), Boxes.box(Boxes.BITS, Boxes.bytes(99, 99)));
        dueThird("COLOUR", LENGTH, colourOf(1, 0, 0, 0, 0, 0, 99, 0));
        dueThird("PALETTE", LENGTH, Boxes.palette(0, 1, 99, 0));
        dueThird("PALETTE of wide numbers", LENGTH, Boxes.palette(1, 1, 99, 0, 0, 0, 0, 0));
        dueBehind(PALETTE, "MAP", LENGTH, Boxes.box(Boxes.MAP, Boxes.bytes(9, 9, 9, 9, 9)));
        dueThird("CHANNELS", LENGTH, channelsOf(1, 9, 9));
        dueInResolution("CAPTURE", LENGTH, new byte[0], Boxes.box(Boxes.CAPTURE, new byte[9]));
    }

    private static void twiceAheadOfGreat() {
        dueBehind(PALETTE, "PALETTE", TWICE, Boxes.box(Boxes.PALETTE, Boxes.bytes(0, 1, 9), new byte[18]));
        dueBehind(Boxes.join(PALETTE, MAP), "MAP", TWICE, Boxes.box(Boxes.MAP, new byte[68]));
        dueBehind(channelsOf(0), "CHANNELS", TWICE, linesOf(17, 0));
    }

    private static void twiceAheadOfValue() {
        byte[] bits = Boxes.box(Boxes.BITS, Boxes.bytes(1, 2, 3));
        due("BITS", Boxes.file(Boxes.head(Boxes.size(5, 6, 3, 255), bits, Boxes.box(Boxes.BITS, Boxes.bytes(99, 99, 99)))), TWICE, SECOND_AT + 11);
        dueBehind(PALETTE, "PALETTE", TWICE, Boxes.palette(0, 1, 99));
        dueBehind(Boxes.join(PALETTE, MAP), "MAP", TWICE, Boxes.box(Boxes.MAP, Boxes.bytes(9, 9, 9, 9)));
        dueBehind(channelsOf(0), "CHANNELS", TWICE, channelsOf(1, 0, 9, 0));
        byte[] capture = ratio(Boxes.CAPTURE, 1, 1, 1, 1, 0, 0);
        byte[] display = ratio(Boxes.DISPLAY, 1, 1, 1, 1, 0, 0);
        dueInResolution("CAPTURE", TWICE, capture, Boxes.box(Boxes.CAPTURE, new byte[10]));
        dueInResolution("DISPLAY", TWICE, display, Boxes.box(Boxes.DISPLAY, new byte[10]));
    }

    private static void greatAheadOfValue() {
        due("components, and no high", fileOfSize(Boxes.size(0, 6, 17, 7)), GREAT, SIZE_AT);
        due("components, and no such bits", fileOfSize(Boxes.size(5, 6, 17, 99)), GREAT, SIZE_AT);
        due("high, and no wide", fileOfSize(Boxes.size(1L << 31, 0, 3, 7)), GREAT, SIZE_AT);
        due("wide, and no components", fileOfSize(Boxes.size(5, 1L << 31, 0, 7)), GREAT, SIZE_AT);
        due("wide, and not 7", fileOfSize(sizeOf(5, 1L << 31, 3, 7, 8, 2, 2)), GREAT, SIZE_AT);
        dueThird("columns, and no entries", GREAT, Boxes.box(Boxes.PALETTE, Boxes.bytes(0, 0, 9), new byte[9]));
        dueThird("columns, and bits", GREAT, Boxes.palette(0, 9, 99, 99, 99, 99, 99, 99, 99, 99, 99));
        byte[] map = new byte[68];
        Arrays.fill(map, (byte) 9);
        dueBehind(PALETTE, "MAP", GREAT, Boxes.box(Boxes.MAP, map));
        dueThird("CHANNELS", GREAT, linesOf(17, 9));
        dueLongPalette(1025, 4, GREAT);
    }

    private static void cutAndLengthAheadOfMissing() {
        due("CUT", Boxes.file(Boxes.boxOfLength(9, Boxes.STREAM)), CUT, 32);
        due("LENGTH", Boxes.file(Boxes.boxOfLength(7, Boxes.STREAM)), LENGTH, 32);
        due("LENGTH of U8", Boxes.file(Boxes.u4(1, Boxes.STREAM), Boxes.number(15, 8)), LENGTH, 32);
    }

    private static void missingAheadOfValue() {
        byte[] three = channelsOf(1, 3, 0, 0);
        due("no COLOUR", Boxes.file(Boxes.head(Boxes.size(5, 6, 3, 7), three), STREAM), MISSING, HEAD_AT);
        due("no BITS", Boxes.file(Boxes.head(Boxes.size(5, 6, 3, 255), three, Boxes.colour(16)), STREAM), MISSING, HEAD_AT);
        due("no MAP", Boxes.file(Boxes.headWith(three, PALETTE), STREAM), MISSING, HEAD_AT);
        due("nothing", Boxes.file(Boxes.headWith(three), STREAM), VALUE, HEAD_AT);
    }

    private static void scansAgain() {
        FileBoxes x = new FileBoxes();
        dueScan("an empty file", x, CUT, 0);
        dueScan("and again", x, CUT, 0);
        Boxes.putInto(x, Boxes.file(HEAD, STREAM));
        dueScan("a file", x, 0, -1);
        dueScan("and again", x, 0, -1);
        check.due("its stream", x.stream(1), 2);
    }

    private static void refusedStays() {
        FileBoxes x = State.full();
        List<Long> plan = ModelTest.planOf(x);
        int length = x.at(-1);
        check.due("scanned", x.stream(1), 2);
        x.put(0);
        dueScan("a byte too many", x, CUT, length);
        check.isThrown("not scanned", Check.STATE, () -> x.stream(1));
        check.isTrue("the plan stays", ModelTest.planOf(x).equals(plan));
        x.spoil(HEAD_AT + 8 + 8, 128);
        dueScan("a high side", x, GREAT, SIZE_AT);
        check.isTrue("the plan still stays", ModelTest.planOf(x).equals(plan));
    }

    private static void planBecomes() {
        FileBoxes x = State.full();
        x.spoil(0, 0);
        dueScan("the file that it has", x, 0, -1);
        FileBoxes plain = Boxes.put(Boxes.file(HEAD, STREAM));
        dueScan("a file like it", plain, 0, -1);
        check.isTrue("all that was told is gone", ModelTest.planOf(x).equals(ModelTest.planOf(plain)));
        check.due("a new profile is empty", told(x).get(6, 0), 0);
        check.due("a new palette has no numbers", x.number(1, 2), 0);
    }

    private static FileBoxes told(FileBoxes x) {
        x.colours(0);
        x.palette(2, 3);
        return x;
    }

    private static void placeStays() {
        FileBoxes x = Boxes.put(Boxes.file(HEAD));
        dueScan("no STREAM", x, MISSING, 77);
        x.size(1, 1, 1, 7, false, false);
        x.colours(16);
        x.plan();
        check.due("behind plan", x.place(), 77);
        x.spoil(0, 0);
        check.due("behind spoil", x.place(), 77);
        x.put(0);
        check.due("behind put", x.place(), 77);
        x.size(1, 1, 1, 7, false, false);
        x.colours(16);
        x.write(0, false);
        check.due("behind write", x.place(), 77);
        x.clear();
        check.due("behind clear", x.place(), 77);
        check.isThrown("not scanned", Check.STATE, () -> x.stream(0));
        check.due("behind what throws", x.place(), 77);
        check.due("the latest one", x.scan(), CUT);
        check.due("of the latest one", x.place(), 0);
    }

    private static void noPlace() {
        FileBoxes x = new FileBoxes();
        check.due("new", x.place(), -1);
        x.put(1);
        check.due("behind put", x.place(), -1);
        x.clear();
        dueScan("refused at 0", x, CUT, 0);
        Boxes.putInto(x, Boxes.file(HEAD, STREAM));
        dueScan("not refused", x, 0, -1);
        x.put(0);
        check.due("behind put again", x.place(), -1);
        x.clear();
        check.due("behind clear", x.place(), -1);
    }

    /** A full file whose STREAM is its last eight bytes: another box takes all room ahead of it. */
    private static FileBoxes streamAtTheEnd() {
        FileBoxes x = new FileBoxes();
        x.size(1, 1, 1, 7, false, false);
        x.colours(16);
        int between = 65536 - 85 - 8;
        x.write(between, false);
        x.spoil(84, 0);
        FileEdgesTest.fill(x, between);
        Boxes.putInto(x, Boxes.stream());
        check.due("full", x.at(-1), 65536);
        return x;
    }

    private static void streamAsked() {
        FileBoxes x = read("two bytes", Boxes.file(HEAD, STREAM));
        check.due("place", x.stream(0), 85);
        check.due("how many", x.stream(1), 2);
        x = read("none", Boxes.file(HEAD, OTHER, Boxes.stream()));
        check.due("place", x.stream(0), 93);
        check.due("how many", x.stream(1), 0);
        x = read("far", Boxes.file(HEAD, Boxes.farBox(Boxes.STREAM, Boxes.bytes(1))));
        check.due("place", x.stream(0), 93);
        check.due("how many", x.stream(1), 1);
        x = streamAtTheEnd();
        dueScan("at the very end", x, 0, -1);
        check.due("place", x.stream(0), 65536);
        check.due("how many", x.stream(1), 0);
    }

    private static void streamUnscanned() {
        FileBoxes x = new FileBoxes();
        for (int what : new int[] {0, 1, 2, -1}) {
            check.isThrown("new", Check.STATE, () -> x.stream(what));
        }
        Boxes.putInto(x, Boxes.file(HEAD, STREAM));
        check.isThrown("put", Check.STATE, () -> x.stream(0));
        dueScan("scanned", x, 0, -1);
        x.plan();
        check.due("plan() doesn't matter", x.stream(1), 2);
        x.put(0);
        dueScan("refused", x, CUT, 87);
        check.isThrown("refused", Check.STATE, () -> x.stream(1));
        x.clear();
        check.isThrown("cleared", Check.STATE, () -> x.stream(1));
    }

    private static void streamOfNone() {
        FileBoxes x = read("scanned", Boxes.file(HEAD, STREAM));
        for (int what : new int[] {-1, 2, 3, 256, Integer.MIN_VALUE, MOST}) {
            check.isThrown("stream(" + what + ")", Check.NONE, () -> x.stream(what));
        }
        check.due("still scanned", x.stream(1), 2);
    }
}
