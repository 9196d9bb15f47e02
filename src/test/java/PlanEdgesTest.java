/** Promises 1 to 15: for each sentence that names a boundary case a test of its own. */
public final class PlanEdgesTest {
    private static final Check check = new Check();
    private static final int LEAST = Integer.MIN_VALUE;
    private static final int MOST = Integer.MAX_VALUE;
    /** Bits that may be told, and those next to them and far from them that may not. */
    private static final int[] GOOD_BITS = {0, 1, 36, 37, 128, 129, 164, 165};
    private static final int[] BAD_BITS = {-1, 38, 127, 166, 254, 255, 256, 293, 384, -128, -91, LEAST, LEAST + 7, MOST};

    public static void main(String[] args) {
        newObjectAndSize();
        bitsAndColours();
        palettes();
        mapsAndChannels();
        resolutions();
        asked();
        check.end();
    }

    private static void newObjectAndSize() {
        check.sentence("1", "An empty file that was not scanned", PlanEdgesTest::emptyFile);
        check.sentence("1", "an empty plan: all is 0, nothing told", () -> dueEmpty(new FileBoxes()));
        check.sentence("2", "The plan is empty.", PlanEdgesTest::emptiedPlan);
        check.sentence("3", "Tells the size; components' bits (0 .. 37, and 128 for signed)", PlanEdgesTest::goodSizeBits);
        check.sentence("3", "are all alike then", PlanEdgesTest::alikeAgain);
        check.sentence("3", "What was told of colours, palette, channels and resolutions stays.", PlanEdgesTest::restStays);
        check.sentence("3", "IllegalArgumentException if a side is below 1", PlanEdgesTest::sides);
        check.sentence("3", "components not 1 .. 16", PlanEdgesTest::components);
        check.sentence("3", "or bits not so.", PlanEdgesTest::badSizeBits);
    }

    private static void bitsAndColours() {
        check.sentence("4", "Other bits of a component.", PlanEdgesTest::bitsOfEach);
        check.sentence("4", "NoSuchElementException if there is none such", PlanEdgesTest::bitsOfNone);
        check.sentence("4", "IllegalArgumentException if bits are not so.", PlanEdgesTest::badBits);
        check.sentence("5", "Colours 16, 17 or 18, in place of what was told (a profile goes)", PlanEdgesTest::colours);
        check.sentence("5", "or a profile without bytes yet, if it is 0 (also if there was one).", PlanEdgesTest::profileAnew);
        check.sentence("5", "IllegalArgumentException for others.", PlanEdgesTest::otherColours);
        check.sentence("6", "One more byte of the profile: how many.", PlanEdgesTest::profileGrows);
        check.sentence("6", "IllegalStateException if no profile was told", PlanEdgesTest::noProfile);
        check.sentence("6", "IllegalArgumentException if it is not 0 .. 255", PlanEdgesTest::profileBytes);
        check.sentence("6", "UnsupportedOperationException if there are 1024.", PlanEdgesTest::fullProfile);
    }

    private static void palettes() {
        check.sentence("7", "A palette, all numbers 0, all columns of 8 bits (7); no map.", PlanEdgesTest::newPalette);
        check.sentence("7", "None if entries are 0 (columns are looked at, too).", PlanEdgesTest::noPalette);
        check.sentence("7", "IllegalArgumentException if entries are not 0 .. 1024", PlanEdgesTest::entries);
        check.sentence("7", "columns not 1 .. 8", PlanEdgesTest::columns);
        check.sentence("7", "or there would be more than 4096 numbers.", PlanEdgesTest::numbers);
        check.sentence("8", "Bits of a column of the palette", PlanEdgesTest::bitsOfColumns);
        check.sentence("8", "its numbers stay (as number() and shown() tell them, though they may need more bits", PlanEdgesTest::numbersStay);
        check.sentence("8", "NoSuchElementException if there is none such", PlanEdgesTest::noColumn);
        check.sentence("8", "IllegalArgumentException if bits are not so.", PlanEdgesTest::badColumnBits);
        check.sentence("9", "A number of the palette.", PlanEdgesTest::corners);
        check.sentence("9", "NoSuchElementException if there is none such", PlanEdgesTest::noEntry);
        check.sentence("9", "IllegalArgumentException if it needs more bits than its column has", PlanEdgesTest::unsignedEntries);
        check.sentence("9", "(with the sign, if it is signed", PlanEdgesTest::signedEntries);
        check.sentence("9", "otherwise also if it is below 0)", PlanEdgesTest::entriesBelowNought);
    }

    private static void mapsAndChannels() {
        check.sentence("10", "One more channel of the map: how many.", PlanEdgesTest::mapGrows);
        check.sentence("10", "IllegalStateException, first, if there is no palette", PlanEdgesTest::mapWithoutPalette);
        check.sentence("10", "or 16 are there", PlanEdgesTest::fullMap);
        check.sentence("10", "IllegalArgumentException if component is not 0 .. 15", PlanEdgesTest::mapComponents);
        check.sentence("10", "(whether the plan has it is for write())", PlanEdgesTest::mapComponentForWrite);
        check.sentence("10", "way not 0 or 1", PlanEdgesTest::mapWays);
        check.sentence("10", "or column isn't there (by the palette)", PlanEdgesTest::mapColumns);
        check.sentence("10", "or isn't 0 (as it is).", PlanEdgesTest::mapColumnsAsItIs);
        check.sentence("11", "One more line of what channels mean: how many.", PlanEdgesTest::linesGrow);
        check.sentence("11", "IllegalArgumentException if channel is not 0 .. 15", PlanEdgesTest::lineChannels);
        check.sentence("11", "type not 0, 1, 2 or 65535", PlanEdgesTest::lineTypes);
        check.sentence("11", "or to not 0 .. 65535", PlanEdgesTest::lineTo);
        check.sentence("11", "IllegalStateException if 16 are there", PlanEdgesTest::fullLines);
        check.sentence("11", "or the channel was told.", PlanEdgesTest::channelTold);
    }

    private static void resolutions() {
        check.sentence("12", "A resolution: of capture, or of display.", PlanEdgesTest::eachResolution);
        check.sentence("12", "All 0: none (any more).", PlanEdgesTest::noResolution);
        check.sentence("12", "IllegalArgumentException if one of the first four is not 1 .. 65535", PlanEdgesTest::ratioParts);
        check.sentence("12", "(if not all six are 0)", PlanEdgesTest::notAllNought);
        check.sentence("12", "or a power not -128 .. 127.", PlanEdgesTest::powers);
    }

    private static void asked() {
        check.sentence("13", "5 colours (0 with a profile, or if none were told)", PlanEdgesTest::coloursAsked);
        check.sentence("13", "6 how many bytes the profile has (-1: none)", PlanEdgesTest::profileAsked);
        check.sentence("13", "30 .. 35 of capture, 40 .. 45 of display as they were told (0 if none)", PlanEdgesTest::resolutionAsked);
        check.sentence("13", "but for 20 .. 28 a doesn't matter.", PlanEdgesTest::whereItMatters);
        check.sentence("13", "NoSuchElementException if there is none such.", PlanEdgesTest::noneAsked);
        check.sentence("14", "A number of the palette.", PlanEdgesTest::corners);
        check.sentence("14", "NoSuchElementException if there is none such.", PlanEdgesTest::noNumber);
        check.sentence("15", "What channel k of the plan (of the map, or of the components, without one) shows", PlanEdgesTest::shownOf);
        check.sentence("15", "v, or by the palette the number of its column in entry v", PlanEdgesTest::shownByPalette);
        check.sentence("15", "(in the first one, if v is below 0", PlanEdgesTest::shownBelow);
        check.sentence("15", "in the last one, if there is none such)", PlanEdgesTest::shownBeyond);
        check.sentence("15", "NoSuchElementException if there is no such channel", PlanEdgesTest::shownOfNoChannel);
        check.sentence("15", "(without map: no such component)", PlanEdgesTest::shownOfNoComponent);
        check.sentence("15", "Whether v fits is not looked at.", PlanEdgesTest::shownUnfit);
    }

    private static FileBoxes sized(int components) {
        FileBoxes x = new FileBoxes();
        x.size(1, 1, components, 7, false, false);
        return x;
    }

    private static FileBoxes withPalette(int entries, int columns) {
        FileBoxes x = sized(1);
        x.palette(entries, columns);
        return x;
    }

    private static void emptyFile() {
        FileBoxes x = new FileBoxes();
        check.due("at(-1)", x.at(-1), 0);
        check.isThrown("at(0)", Check.NONE, () -> x.at(0));
        check.isThrown("spoil(0, 0)", Check.NONE, () -> x.spoil(0, 0));
        check.isThrown("stream(0)", Check.STATE, () -> x.stream(0));
        check.isThrown("stream(1)", Check.STATE, () -> x.stream(1));
        check.due("place()", x.place(), -1);
    }

    private static void dueEmpty(FileBoxes x) {
        for (int what = 0; what <= 10; what++) {
            check.due("get(" + what + ")", x.get(what, 0), what == 6 ? -1 : 0);
        }
        for (int k = 20; k <= 28; k++) {
            int what = k;
            check.isThrown("get(" + what + ", 0)", Check.NONE, () -> x.get(what, 0));
        }
        for (int k = 0; k < 6; k++) {
            check.due("capture", x.get(30 + k, 0), 0);
            check.due("display", x.get(40 + k, 0), 0);
        }
        check.isThrown("bits(0, 0)", Check.NONE, () -> x.bits(0, 0));
        check.isThrown("profile(0)", Check.STATE, () -> x.profile(0));
        check.isThrown("column(0, 0)", Check.NONE, () -> x.column(0, 0));
        check.isThrown("entry(0, 0, 0)", Check.NONE, () -> x.entry(0, 0, 0));
        check.isThrown("map(0, 0, 0)", Check.STATE, () -> x.map(0, 0, 0));
        check.isThrown("number(0, 0)", Check.NONE, () -> x.number(0, 0));
        check.isThrown("shown(0, 0)", Check.NONE, () -> x.shown(0, 0));
        check.isThrown("write(0, false)", Check.STATE, () -> x.write(0, false));
    }

    private static void emptiedPlan() {
        FileBoxes x = State.full();
        int length = x.at(-1);
        x.plan();
        dueEmpty(x);
        check.due("the file stays", x.at(-1), length);
        check.due("and is still scanned", x.stream(1), 2);
        x.plan();
        dueEmpty(x);
        x.size(1, 1, 16, 3, false, false);
        check.due("no bits are left", x.get(20, 1), 3);
        x.palette(2, 3);
        check.due("no number is left", x.number(1, 2), 0);
        check.due("no map is left", x.get(9, 0), 0);
        check.due("no line is left", x.channel(0, 0, 0), 1);
        x.colours(0);
        check.due("no byte is left", x.profile(1), 1);
    }

    private static void goodSizeBits() {
        for (int bits : GOOD_BITS) {
            FileBoxes x = new FileBoxes();
            x.size(1, 1, 2, bits, false, false);
            check.due("bits 0", x.get(20, 0), bits);
            check.due("bits 1", x.get(20, 1), bits);
        }
    }

    private static void badSizeBits() {
        FileBoxes x = sized(2);
        for (int bits : BAD_BITS) {
            check.isThrown("bits " + bits, Check.ARGUMENT, () -> x.size(9, 9, 9, bits, true, true));
            check.due("components", x.get(2, 0), 2);
            check.due("bits stay", x.get(20, 1), 7);
        }
    }

    private static void alikeAgain() {
        FileBoxes x = sized(2);
        x.bits(0, 1);
        x.bits(1, 2);
        x.size(1, 1, 16, 165, false, false);
        for (int c = 0; c < 16; c++) {
            check.due("bits " + c, x.get(20, c), 165);
        }
        x.colours(16);
        check.due("no BITS is written", x.write(0, false), 85);
        x.bits(15, 164);
        x.size(1, 1, 15, 165, false, false);
        check.due("nor for a component that is gone", x.write(0, false), 85);
    }

    private static void restStays() {
        FileBoxes x = State.full();
        x.size(1, 1, 16, 0, false, false);
        check.due("profile", x.get(21, 0), 9);
        check.due("palette", x.number(1, 2), 200);
        check.due("map", x.get(25, 0), 2);
        check.due("channels", x.get(28, 0), 65535);
        check.due("capture", x.get(35, 0), 6);
        check.due("display", x.get(45, 0), -12);
        x.colours(18);
        x.size(1, 1, 1, 0, false, false);
        check.due("colours", x.get(5, 0), 18);
    }

    private static void sides() {
        FileBoxes x = sized(1);
        for (int side : new int[] {0, -1, -1000, LEAST}) {
            check.isThrown("high " + side, Check.ARGUMENT, () -> x.size(side, 5, 1, 7, true, true));
            check.isThrown("wide " + side, Check.ARGUMENT, () -> x.size(5, side, 1, 7, true, true));
        }
        check.due("high stays", x.get(0, 0), 1);
        check.due("wide stays", x.get(1, 0), 1);
        check.due("unknown stays", x.get(3, 0), 0);
        x.size(MOST, 1, 1, 7, true, false);
        check.due("high 2^31 - 1", x.get(0, 0), MOST);
        check.due("unknown", x.get(3, 0), 1);
        x.size(1, MOST, 1, 7, false, true);
        check.due("wide 2^31 - 1", x.get(1, 0), MOST);
        check.due("rights", x.get(4, 0), 1);
    }

    private static void components() {
        FileBoxes x = sized(2);
        for (int components : new int[] {0, 17, -1, 255, LEAST, MOST}) {
            check.isThrown("components " + components, Check.ARGUMENT, () -> x.size(5, 5, components, 7, false, false));
        }
        check.due("components stay", x.get(2, 0), 2);
        for (int components : new int[] {1, 16}) {
            x.size(5, 5, components, 7, false, false);
            check.due("components", x.get(2, 0), components);
            check.due("the last one", x.get(20, components - 1), 7);
            check.isThrown("one more", Check.NONE, () -> x.get(20, components));
        }
    }

    private static void bitsOfEach() {
        FileBoxes x = sized(16);
        for (int c = 0; c < 16; c++) {
            x.bits(c, c % 2 == 0 ? c : 128 + c);
        }
        for (int c = 0; c < 16; c++) {
            check.due("bits " + c, x.get(20, c), c % 2 == 0 ? c : 128 + c);
        }
        for (int bits : GOOD_BITS) {
            x.bits(15, bits);
            check.due("bits of the last one", x.get(20, 15), bits);
            check.due("bits of the other ones", x.get(20, 14), 14);
        }
    }

    private static void bitsOfNone() {
        FileBoxes none = new FileBoxes();
        check.isThrown("without a size", Check.NONE, () -> none.bits(0, 7));
        FileBoxes x = sized(16);
        for (int c : new int[] {-1, 16, LEAST, MOST}) {
            check.isThrown("bits of " + c, Check.NONE, () -> x.bits(c, 7));
        }
        x.size(1, 1, 3, 7, false, false);
        check.isThrown("one that is gone", Check.NONE, () -> x.bits(3, 7));
        x.plan();
        check.isThrown("of an empty plan", Check.NONE, () -> x.bits(0, 7));
    }

    private static void badBits() {
        FileBoxes x = sized(3);
        for (int bits : BAD_BITS) {
            check.isThrown("bits " + bits, Check.ARGUMENT, () -> x.bits(2, bits));
            check.due("they stay", x.get(20, 2), 7);
        }
    }

    private static void colours() {
        for (int colours = 16; colours <= 18; colours++) {
            FileBoxes x = new FileBoxes();
            x.colours(0);
            x.profile(1);
            x.colours(colours);
            check.due("colours", x.get(5, 0), colours);
            check.due("the profile goes", x.get(6, 0), -1);
            check.isThrown("its byte too", Check.NONE, () -> x.get(21, 0));
            check.isThrown("none can be told", Check.STATE, () -> x.profile(1));
            x.colours(34 - colours);
            check.due("other colours", x.get(5, 0), 34 - colours);
        }
    }

    private static void profileAnew() {
        FileBoxes x = new FileBoxes();
        x.colours(17);
        x.colours(0);
        check.due("colours go", x.get(5, 0), 0);
        check.due("no bytes yet", x.get(6, 0), 0);
        check.isThrown("no byte 0", Check.NONE, () -> x.get(21, 0));
        x.profile(1);
        x.profile(2);
        x.colours(0);
        check.due("no bytes again", x.get(6, 0), 0);
        check.isThrown("no byte 0 again", Check.NONE, () -> x.get(21, 0));
        check.due("the first byte again", x.profile(9), 1);
        check.due("which is another", x.get(21, 0), 9);
    }

    private static void otherColours() {
        FileBoxes x = new FileBoxes();
        x.colours(17);
        for (int colours : new int[] {-1, 1, 15, 19, 16 + 256, -16, LEAST, LEAST + 16, MOST}) {
            check.isThrown("colours " + colours, Check.ARGUMENT, () -> x.colours(colours));
            check.due("colours stay", x.get(5, 0), 17);
        }
    }

    private static void profileGrows() {
        FileBoxes x = new FileBoxes();
        x.colours(0);
        for (int k = 1; k <= 130; k++) {
            check.due("profile", x.profile(k), k);
        }
        for (int k = 0; k < 130; k++) {
            check.due("byte " + k, x.get(21, k), k + 1);
        }
    }

    private static void noProfile() {
        FileBoxes x = new FileBoxes();
        check.isThrown("new", Check.STATE, () -> x.profile(0));
        x.colours(16);
        check.isThrown("with colours", Check.STATE, () -> x.profile(0));
        x.colours(0);
        x.profile(0);
        x.plan();
        check.isThrown("emptied", Check.STATE, () -> x.profile(0));
        check.due("still none", x.get(6, 0), -1);
    }

    private static void profileBytes() {
        FileBoxes x = new FileBoxes();
        x.colours(0);
        for (int b : new int[] {-1, 256, -128, LEAST, MOST}) {
            check.isThrown("profile(" + b + ")", Check.ARGUMENT, () -> x.profile(b));
        }
        check.due("no byte came", x.get(6, 0), 0);
        check.due("profile(0)", x.profile(0), 1);
        check.due("profile(255)", x.profile(255), 2);
        check.due("byte 0", x.get(21, 0), 0);
        check.due("byte 1", x.get(21, 1), 255);
    }

    /** A profile of 1022 bytes is read, so that few calls are needed to fill it. */
    private static void fullProfile() {
        FileBoxes x = ScanTest.withLongProfile(1022);
        check.due("scan", x.scan(), 0);
        check.due("byte 1023", x.profile(11), 1023);
        check.due("byte 1024", x.profile(12), 1024);
        check.isThrown("one more", Check.UNSUPPORTED, () -> x.profile(13));
        check.due("1024 still", x.get(6, 0), 1024);
        check.due("the last one stays", x.get(21, 1023), 12);
        check.isThrown("none behind it", Check.NONE, () -> x.get(21, 1024));
        x.colours(0);
        check.due("an empty one takes bytes again", x.profile(13), 1);
    }

    private static void newPalette() {
        FileBoxes x = withPalette(3, 2);
        x.column(1, 165);
        x.entry(2, 1, -1);
        x.map(0, 1, 1);
        x.palette(3, 2);
        check.due("number", x.number(2, 1), 0);
        check.due("bits", x.get(22, 1), 7);
        check.due("no map", x.get(9, 0), 0);
        check.due("the map begins anew", x.map(0, 0, 0), 1);
        x.palette(512, 8);
        for (int c = 0; c < 8; c++) {
            check.due("last entry", x.number(511, c), 0);
            check.due("bits of column " + c, x.get(22, c), 7);
        }
        x.entry(511, 7, 255);
        x.palette(1, 1);
        x.palette(1024, 4);
        check.due("no number comes back", x.number(1023, 3), 0);
    }

    private static void noPalette() {
        FileBoxes x = withPalette(3, 2);
        x.map(0, 0, 0);
        for (int columns : new int[] {0, 9, -1, LEAST, MOST}) {
            check.isThrown("palette(0, " + columns + ")", Check.ARGUMENT, () -> x.palette(0, columns));
        }
        check.due("entries stay", x.get(7, 0), 3);
        check.due("the map stays", x.get(9, 0), 1);
        for (int columns : new int[] {1, 8}) {
            x.palette(0, columns);
            check.due("entries", x.get(7, 0), 0);
            check.due("columns", x.get(8, 0), 0);
            check.due("map", x.get(9, 0), 0);
            check.isThrown("column(0, 7)", Check.NONE, () -> x.column(0, 7));
            check.isThrown("get(22, 0)", Check.NONE, () -> x.get(22, 0));
            check.isThrown("number(0, 0)", Check.NONE, () -> x.number(0, 0));
            check.isThrown("map(0, 0, 0)", Check.STATE, () -> x.map(0, 0, 0));
            check.due("components are shown", x.shown(0, 9), 9);
            x.palette(1, 1);
            x.map(0, 1, 0);
        }
    }

    private static void entries() {
        FileBoxes x = withPalette(7, 2);
        for (int entries : new int[] {-1, 1025, 65536, LEAST, MOST}) {
            check.isThrown("entries " + entries, Check.ARGUMENT, () -> x.palette(entries, 1));
            check.due("entries stay", x.get(7, 0), 7);
        }
        for (int entries : new int[] {1, 1024}) {
            x.palette(entries, 1);
            check.due("entries", x.get(7, 0), entries);
            x.entry(entries - 1, 0, 255);
            check.due("the last one", x.number(entries - 1, 0), 255);
            check.isThrown("one more", Check.NONE, () -> x.number(entries, 0));
        }
    }

    private static void columns() {
        FileBoxes x = withPalette(7, 2);
        for (int columns : new int[] {0, 9, -1, 256, LEAST, MOST}) {
            check.isThrown("columns " + columns, Check.ARGUMENT, () -> x.palette(1, columns));
            check.due("columns stay", x.get(8, 0), 2);
        }
        for (int columns : new int[] {1, 8}) {
            x.palette(1, columns);
            check.due("columns", x.get(8, 0), columns);
            x.entry(0, columns - 1, 255);
            check.due("the last one", x.number(0, columns - 1), 255);
            check.isThrown("one more", Check.NONE, () -> x.number(0, columns));
        }
    }

    private static void numbers() {
        FileBoxes x = withPalette(7, 2);
        int[][] more = {{513, 8}, {586, 7}, {683, 6}, {820, 5}, {1024, 5}, {1024, 8}, {1 << 29, 8}, {1 << 30, 4}};
        for (int[] m : more) {
            check.isThrown("palette " + m[0] + ", " + m[1], Check.ARGUMENT, () -> x.palette(m[0], m[1]));
            check.due("entries stay", x.get(7, 0), 7);
        }
        int[][] most = {{512, 8}, {585, 7}, {682, 6}, {819, 5}, {1024, 4}, {1024, 1}};
        for (int[] m : most) {
            x.palette(m[0], m[1]);
            x.entry(m[0] - 1, m[1] - 1, 254);
            x.entry(0, 0, 1);
            check.due("the last number", x.number(m[0] - 1, m[1] - 1), 254);
            check.due("the first number", x.number(0, 0), 1);
        }
    }

    private static void bitsOfColumns() {
        FileBoxes x = withPalette(1, 8);
        for (int c = 0; c < 8; c++) {
            x.column(c, GOOD_BITS[c]);
        }
        for (int c = 0; c < 8; c++) {
            check.due("bits of column " + c, x.get(22, c), GOOD_BITS[c]);
        }
    }

    private static void numbersStay() {
        FileBoxes x = withPalette(2, 1);
        x.column(0, 37);
        long most = (1L << 38) - 1;
        x.entry(1, 0, most);
        x.map(0, 1, 0);
        for (int bits : new int[] {0, 128, 7, 165}) {
            x.column(0, bits);
            check.due("number", x.number(1, 0), most);
            check.due("shown", x.shown(0, 1), most);
            check.isThrown("it could not be told again", Check.ARGUMENT, () -> x.entry(0, 0, most));
        }
        x.column(0, 165);
        x.entry(1, 0, -1);
        x.column(0, 37);
        check.due("below 0, without the sign", x.number(1, 0), -1);
        check.due("below 0, shown", x.shown(0, 1), -1);
    }

    private static void noColumn() {
        FileBoxes none = new FileBoxes();
        check.isThrown("without a palette", Check.NONE, () -> none.column(0, 7));
        FileBoxes x = withPalette(1, 8);
        for (int c : new int[] {-1, 8, LEAST, MOST}) {
            check.isThrown("column " + c, Check.NONE, () -> x.column(c, 7));
        }
        x.palette(1, 2);
        check.isThrown("one that is gone", Check.NONE, () -> x.column(2, 7));
        check.isThrown("its bits too", Check.NONE, () -> x.get(22, 2));
    }

    private static void badColumnBits() {
        FileBoxes x = withPalette(1, 3);
        for (int bits : BAD_BITS) {
            check.isThrown("bits " + bits, Check.ARGUMENT, () -> x.column(2, bits));
            check.due("they stay", x.get(22, 2), 7);
        }
    }

    private static void corners() {
        FileBoxes x = withPalette(819, 5);
        int[][] at = {{0, 0}, {0, 4}, {818, 0}, {818, 4}, {409, 2}};
        for (int k = 0; k < at.length; k++) {
            x.entry(at[k][0], at[k][1], 100 + k);
        }
        for (int k = 0; k < at.length; k++) {
            check.due("corner " + k, x.number(at[k][0], at[k][1]), 100 + k);
        }
        check.due("next to one", x.number(1, 0), 0);
        check.due("ahead of one", x.number(817, 4), 0);
    }

    private static void noEntry() {
        FileBoxes none = new FileBoxes();
        check.isThrown("without a palette", Check.NONE, () -> none.entry(0, 0, 0));
        FileBoxes x = withPalette(4, 2);
        // Entry -1 with column 2 and entry 0 with column 2 would be numbers, one behind another.
        int[][] at = {{-1, 0}, {-1, 2}, {4, 0}, {0, -1}, {1, -1}, {0, 2}, {3, 2}, {LEAST, 0}, {MOST, 1}, {0, LEAST},
            {0, MOST}, {1 << 31, 0}, {1 << 30, 0}};
        for (int[] a : at) {
            check.isThrown("entry " + a[0] + ", " + a[1], Check.NONE, () -> x.entry(a[0], a[1], 9));
        }
        for (int i = 0; i < 4; i++) {
            check.due("number", x.number(i, 0) + x.number(i, 1), 0);
        }
    }

    private static void dueFit(FileBoxes x, int bits, long lowest, long highest) {
        x.column(0, bits);
        x.entry(0, 0, lowest);
        check.due("lowest of " + bits, x.number(0, 0), lowest);
        x.entry(0, 0, highest);
        check.due("highest of " + bits, x.number(0, 0), highest);
        for (long v : new long[] {highest + 1, Long.MAX_VALUE, lowest - 1, Long.MIN_VALUE}) {
            check.isThrown("bits " + bits + ", number " + v, Check.ARGUMENT, () -> x.entry(0, 0, v));
        }
        check.due("the highest of " + bits + " stays", x.number(0, 0), highest);
    }

    private static void unsignedEntries() {
        FileBoxes x = withPalette(1, 1);
        for (int bits = 0; bits <= 37; bits++) {
            dueFit(x, bits, 0, (2L << bits) - 1);
        }
    }

    private static void signedEntries() {
        FileBoxes x = withPalette(1, 1);
        for (int bits = 0; bits <= 37; bits++) {
            dueFit(x, 128 + bits, -(1L << bits), (1L << bits) - 1);
        }
    }

    private static void entriesBelowNought() {
        FileBoxes x = withPalette(1, 1);
        for (int bits : new int[] {0, 7, 31, 32, 37}) {
            x.column(0, bits);
            for (long v : new long[] {-1, -2, -(1L << bits), -(2L << bits), Long.MIN_VALUE, Long.MIN_VALUE + 1}) {
                check.isThrown("bits " + bits + ", number " + v, Check.ARGUMENT, () -> x.entry(0, 0, v));
            }
        }
        check.due("nothing was told", x.number(0, 0), 0);
    }

    private static void mapGrows() {
        FileBoxes x = withPalette(1, 8);
        for (int k = 0; k < 16; k++) {
            check.due("map", x.map(k, k % 2, k % 2 == 0 ? 0 : k / 2), k + 1);
        }
        for (int k = 0; k < 16; k++) {
            check.due("component", x.get(23, k), k);
            check.due("way", x.get(24, k), k % 2);
            check.due("column", x.get(25, k), k % 2 == 0 ? 0 : k / 2);
        }
    }

    private static void mapWithoutPalette() {
        FileBoxes x = new FileBoxes();
        check.isThrown("new", Check.STATE, () -> x.map(0, 0, 0));
        check.isThrown("new, wrong too", Check.STATE, () -> x.map(-1, 2, 9));
        x.palette(1, 1);
        x.map(0, 0, 0);
        x.palette(0, 1);
        check.isThrown("gone", Check.STATE, () -> x.map(0, 0, 0));
        check.isThrown("gone, wrong too", Check.STATE, () -> x.map(16, 0, 0));
    }

    private static void fullMap() {
        FileBoxes x = withPalette(1, 1);
        for (int k = 1; k <= 15; k++) {
            x.map(0, 1, 0);
        }
        check.due("the last one", x.map(15, 0, 0), 16);
        check.isThrown("one more", Check.STATE, () -> x.map(0, 0, 0));
        check.isThrown("one more, wrong too", Check.STATE, () -> x.map(0, 0, 1));
        check.due("16 still", x.get(9, 0), 16);
        check.due("the last one stays", x.get(23, 15), 15);
        x.palette(1, 1);
        check.due("with a new palette the first again", x.map(0, 0, 0), 1);
    }

    private static void dueMapRefused(FileBoxes x, int component, int way, int column) {
        int before = x.get(9, 0);
        check.isThrown("map " + component + ", " + way + ", " + column, Check.ARGUMENT, () -> x.map(component, way, column));
        check.due("no more in the map", x.get(9, 0), before);
    }

    private static void mapComponents() {
        FileBoxes x = withPalette(1, 1);
        for (int component : new int[] {-1, 16, 65536, LEAST, MOST}) {
            dueMapRefused(x, component, 0, 0);
            dueMapRefused(x, component, 1, 0);
        }
        check.due("component 0", x.map(0, 0, 0), 1);
        check.due("component 15", x.map(15, 1, 0), 2);
    }

    private static void mapComponentForWrite() {
        FileBoxes x = withPalette(1, 1);
        x.colours(16);
        check.due("component 1 of one", x.map(1, 1, 0), 1);
        check.isThrown("write", Check.STATE, () -> x.write(0, false));
        FileBoxes unsized = new FileBoxes();
        unsized.palette(1, 1);
        check.due("component 15 of none", unsized.map(15, 0, 0), 1);
    }

    private static void mapWays() {
        FileBoxes x = withPalette(1, 1);
        for (int way : new int[] {-1, 2, 255, 256, LEAST, MOST}) {
            dueMapRefused(x, 0, way, 0);
        }
    }

    private static void mapColumns() {
        FileBoxes x = withPalette(1, 8);
        for (int column : new int[] {-1, 8, 255, 256, LEAST, MOST}) {
            dueMapRefused(x, 0, 1, column);
        }
        check.due("column 0", x.map(0, 1, 0), 1);
        check.due("column 7", x.map(0, 1, 7), 2);
        x.palette(1, 1);
        dueMapRefused(x, 0, 1, 1);
    }

    private static void mapColumnsAsItIs() {
        FileBoxes x = withPalette(1, 8);
        for (int column : new int[] {-1, 1, 7, 8, 256, LEAST, MOST}) {
            dueMapRefused(x, 0, 0, column);
        }
        check.due("column 0", x.map(0, 0, 0), 1);
    }

    private static void linesGrow() {
        FileBoxes x = new FileBoxes();
        int[] types = {0, 1, 2, 65535};
        for (int k = 0; k < 16; k++) {
            check.due("channel", x.channel(15 - k, types[k % 4], 65535 - k), k + 1);
        }
        for (int k = 0; k < 16; k++) {
            check.due("channel", x.get(26, k), 15 - k);
            check.due("type", x.get(27, k), types[k % 4]);
            check.due("to", x.get(28, k), 65535 - k);
        }
    }

    private static void dueLineRefused(FileBoxes x, Class<?> kind, int channel, int type, int to) {
        int before = x.get(10, 0);
        check.isThrown("channel " + channel + ", " + type + ", " + to, kind, () -> x.channel(channel, type, to));
        check.due("no more lines", x.get(10, 0), before);
    }

    private static void lineChannels() {
        FileBoxes x = new FileBoxes();
        for (int channel : new int[] {-1, 16, 65536, LEAST, MOST}) {
            dueLineRefused(x, Check.ARGUMENT, channel, 0, 0);
        }
        check.due("channel 0", x.channel(0, 0, 0), 1);
        check.due("channel 15", x.channel(15, 0, 0), 2);
    }

    private static void lineTypes() {
        FileBoxes x = new FileBoxes();
        for (int type : new int[] {-1, 3, 65534, 65536, 65537, LEAST, MOST}) {
            dueLineRefused(x, Check.ARGUMENT, 0, type, 0);
        }
        int[] types = {0, 1, 2, 65535};
        for (int k = 0; k < 4; k++) {
            check.due("type " + types[k], x.channel(k, types[k], 0), k + 1);
        }
    }

    private static void lineTo() {
        FileBoxes x = new FileBoxes();
        for (int to : new int[] {-1, 65536, LEAST, MOST}) {
            dueLineRefused(x, Check.ARGUMENT, 0, 0, to);
        }
        check.due("to 0", x.channel(0, 0, 0), 1);
        check.due("to 65535", x.channel(1, 0, 65535), 2);
        check.due("to told", x.get(28, 1), 65535);
    }

    private static void fullLines() {
        FileBoxes x = new FileBoxes();
        for (int k = 0; k < 15; k++) {
            x.channel(k, 0, 0);
        }
        check.due("the last one", x.channel(15, 2, 7), 16);
        for (int k = 0; k < 16; k++) {
            dueLineRefused(x, Check.STATE, k, 0, 0);
        }
        dueLineRefused(x, Check.ARGUMENT, 16, 0, 0);
        check.due("the last one stays", x.get(28, 15), 7);
        x.plan();
        check.due("the first again", x.channel(15, 0, 0), 1);
    }

    private static void channelTold() {
        FileBoxes x = new FileBoxes();
        x.channel(7, 1, 2);
        dueLineRefused(x, Check.STATE, 7, 0, 0);
        dueLineRefused(x, Check.STATE, 7, 1, 2);
        check.due("another", x.channel(0, 1, 2), 2);
        dueLineRefused(x, Check.STATE, 0, 0, 0);
        dueLineRefused(x, Check.STATE, 7, 0, 0);
        dueLineRefused(x, Check.ARGUMENT, 7, 3, 0);
        check.due("type stays", x.get(27, 0), 1);
    }

    private static void dueResolution(FileBoxes x, int from, int... parts) {
        for (int k = 0; k < 6; k++) {
            check.due("get(" + (from + k) + ")", x.get(from + k, 0), parts[k]);
        }
    }

    private static void eachResolution() {
        FileBoxes x = new FileBoxes();
        x.resolution(false, 1, 65535, 1, 65535, -128, 127);
        dueResolution(x, 30, 1, 65535, 1, 65535, -128, 127);
        dueResolution(x, 40, 0, 0, 0, 0, 0, 0);
        x.resolution(true, 65535, 1, 65535, 1, 127, -128);
        dueResolution(x, 30, 1, 65535, 1, 65535, -128, 127);
        dueResolution(x, 40, 65535, 1, 65535, 1, 127, -128);
    }

    private static void noResolution() {
        FileBoxes x = new FileBoxes();
        x.resolution(false, 0, 0, 0, 0, 0, 0);
        dueResolution(x, 30, 0, 0, 0, 0, 0, 0);
        x.resolution(false, 1, 2, 3, 4, 5, 6);
        x.resolution(true, 6, 5, 4, 3, 2, 1);
        x.resolution(true, 0, 0, 0, 0, 0, 0);
        dueResolution(x, 30, 1, 2, 3, 4, 5, 6);
        dueResolution(x, 40, 0, 0, 0, 0, 0, 0);
        x.resolution(false, 0, 0, 0, 0, 0, 0);
        dueResolution(x, 30, 0, 0, 0, 0, 0, 0);
        x.size(1, 1, 1, 7, false, false);
        x.colours(16);
        check.due("no RESOLUTION is written", x.write(0, false), 85);
    }

    private static void dueResolutionRefused(int[] parts) {
        FileBoxes x = new FileBoxes();
        x.resolution(false, 1, 2, 3, 4, 5, 6);
        x.resolution(true, 6, 5, 4, 3, 2, 1);
        for (boolean display : new boolean[] {false, true}) {
            check.isThrown("resolution " + java.util.Arrays.toString(parts), Check.ARGUMENT,
                    () -> x.resolution(display, parts[0], parts[1], parts[2], parts[3], parts[4], parts[5]));
        }
        dueResolution(x, 30, 1, 2, 3, 4, 5, 6);
        dueResolution(x, 40, 6, 5, 4, 3, 2, 1);
    }

    private static void ratioParts() {
        for (int which = 0; which < 4; which++) {
            for (int part : new int[] {0, -1, 65536, LEAST, MOST}) {
                int[] parts = {9, 9, 9, 9, 0, 0};
                parts[which] = part;
                dueResolutionRefused(parts);
            }
        }
    }

    private static void notAllNought() {
        for (int which = 0; which < 6; which++) {
            int[] parts = {0, 0, 0, 0, 0, 0};
            parts[which] = 1;
            dueResolutionRefused(parts);
            parts[which] = -1;
            dueResolutionRefused(parts);
        }
        dueResolutionRefused(new int[] {0, 0, 0, 0, 1, -1});
        FileBoxes x = new FileBoxes();
        x.resolution(true, 1, 1, 1, 1, 0, 0);
        dueResolution(x, 40, 1, 1, 1, 1, 0, 0);
    }

    private static void powers() {
        for (int power : new int[] {-129, 128, 255, 256, LEAST, MOST}) {
            dueResolutionRefused(new int[] {1, 1, 1, 1, power, 0});
            dueResolutionRefused(new int[] {1, 1, 1, 1, 0, power});
            dueResolutionRefused(new int[] {0, 0, 0, 0, power, 0});
            dueResolutionRefused(new int[] {0, 0, 0, 0, 0, power});
        }
    }

    private static void coloursAsked() {
        FileBoxes x = new FileBoxes();
        check.due("none told", x.get(5, 0), 0);
        x.colours(18);
        check.due("told", x.get(5, 0), 18);
        x.colours(0);
        check.due("a profile without bytes", x.get(5, 0), 0);
        x.profile(17);
        check.due("a profile", x.get(5, 0), 0);
    }

    private static void profileAsked() {
        FileBoxes x = new FileBoxes();
        check.due("none told", x.get(6, 0), -1);
        x.colours(16);
        check.due("colours told", x.get(6, 0), -1);
        x.colours(0);
        check.due("no bytes", x.get(6, 0), 0);
        x.profile(0);
        check.due("one byte", x.get(6, 0), 1);
        x.plan();
        check.due("emptied", x.get(6, 0), -1);
    }

    private static void resolutionAsked() {
        FileBoxes x = new FileBoxes();
        dueResolution(x, 30, 0, 0, 0, 0, 0, 0);
        dueResolution(x, 40, 0, 0, 0, 0, 0, 0);
        x.resolution(true, 2, 4, 6, 8, -10, -12);
        dueResolution(x, 30, 0, 0, 0, 0, 0, 0);
        dueResolution(x, 40, 2, 4, 6, 8, -10, -12);
    }

    private static void whereItMatters() {
        FileBoxes x = State.full();
        int[] single = {3, 4, 2, 1, 1, 0, 1, 2, 3, 1, 1};
        for (int a : new int[] {LEAST, -1, 0, 1, 16, MOST}) {
            for (int what = 0; what <= 10; what++) {
                check.due("get(" + what + ", " + a + ")", x.get(what, a), single[what]);
            }
            check.due("get(30, " + a + ")", x.get(30, a), 1);
            check.due("get(35, " + a + ")", x.get(35, a), 6);
            check.due("get(40, " + a + ")", x.get(40, a), 7);
            check.due("get(45, " + a + ")", x.get(45, a), -12);
        }
        int[] counts = {2, 1, 3, 1, 1, 1, 1, 1, 1};
        for (int k = 0; k < counts.length; k++) {
            int what = 20 + k;
            for (int a : new int[] {LEAST, -1, counts[k], counts[k] + 1, MOST}) {
                check.isThrown("get(" + what + ", " + a + ")", Check.NONE, () -> x.get(what, a));
            }
            check.isTrue("get(" + what + ", last)", x.get(what, counts[k] - 1) >= 0);
        }
    }

    private static void noneAsked() {
        FileBoxes x = State.full();
        for (int what : new int[] {-1, 11, 12, 19, 29, 36, 39, 46, 50, 256, LEAST, MOST}) {
            check.isThrown("get(" + what + ", 0)", Check.NONE, () -> x.get(what, 0));
        }
    }

    private static void noNumber() {
        FileBoxes none = new FileBoxes();
        check.isThrown("without a palette", Check.NONE, () -> none.number(0, 0));
        FileBoxes x = withPalette(4, 2);
        int[][] at = {{-1, 0}, {-1, 2}, {4, 0}, {0, -1}, {1, -1}, {0, 2}, {3, 2}, {LEAST, 0}, {MOST, 1}, {0, LEAST},
            {0, MOST}, {1 << 31, 0}, {1 << 30, 0}};
        for (int[] a : at) {
            check.isThrown("number " + a[0] + ", " + a[1], Check.NONE, () -> x.number(a[0], a[1]));
        }
        x.palette(2, 4);
        check.isThrown("an entry that is gone", Check.NONE, () -> x.number(2, 0));
    }

    private static void shownOf() {
        FileBoxes x = sized(3);
        check.due("a component", x.shown(2, 5), 5);
        x.palette(2, 1);
        x.entry(1, 0, 99);
        check.due("a palette without map", x.shown(2, 1), 1);
        x.map(0, 1, 0);
        check.due("the map", x.shown(0, 1), 99);
        check.isThrown("components no more", Check.NONE, () -> x.shown(1, 1));
        x.palette(0, 1);
        check.due("components again", x.shown(2, 1), 1);
    }

    /** Three entries with 10, 20, 30 in column 0 and -1, -2, -3 in column 1, and a map by both. */
    private static FileBoxes shownFrom() {
        FileBoxes x = withPalette(3, 2);
        x.column(1, 165);
        for (int i = 0; i < 3; i++) {
            x.entry(i, 0, 10 * i + 10);
            x.entry(i, 1, -1 - i);
        }
        x.map(0, 1, 0);
        x.map(0, 1, 1);
        x.map(0, 0, 0);
        return x;
    }

    private static void shownByPalette() {
        FileBoxes x = shownFrom();
        for (int v = 0; v < 3; v++) {
            check.due("by column 0", x.shown(0, v), 10 * v + 10);
            check.due("by column 1", x.shown(1, v), -1 - v);
            check.due("as it is", x.shown(2, v), v);
        }
        x.palette(1, 1);
        x.column(0, 165);
        x.entry(0, 0, -(1L << 37));
        x.map(0, 1, 0);
        for (int v : new int[] {LEAST, -1, 0, 1, MOST}) {
            check.due("of one entry", x.shown(0, v), -(1L << 37));
        }
    }

    private static void shownBelow() {
        FileBoxes x = shownFrom();
        for (int v : new int[] {-1, -2, -3, LEAST}) {
            check.due("by column 0, " + v, x.shown(0, v), 10);
            check.due("by column 1, " + v, x.shown(1, v), -1);
        }
    }

    private static void shownBeyond() {
        FileBoxes x = shownFrom();
        for (int v : new int[] {2, 3, 4, 65536, MOST}) {
            check.due("by column 0, " + v, x.shown(0, v), 30);
            check.due("by column 1, " + v, x.shown(1, v), -3);
        }
    }

    private static void shownOfNoChannel() {
        FileBoxes x = shownFrom();
        for (int k : new int[] {-1, 3, 16, LEAST, MOST}) {
            check.isThrown("shown " + k, Check.NONE, () -> x.shown(k, 0));
        }
        x.size(1, 1, 16, 7, false, false);
        check.isThrown("though there is a component", Check.NONE, () -> x.shown(3, 0));
    }

    private static void shownOfNoComponent() {
        FileBoxes none = new FileBoxes();
        check.isThrown("of an empty plan", Check.NONE, () -> none.shown(0, 0));
        FileBoxes x = sized(16);
        for (int k : new int[] {-1, 16, LEAST, MOST}) {
            check.isThrown("shown " + k, Check.NONE, () -> x.shown(k, 0));
        }
        check.due("the last one", x.shown(15, 1), 1);
    }

    private static void shownUnfit() {
        FileBoxes x = shownFrom();
        x.size(1, 1, 1, 0, false, false);
        for (int v : new int[] {LEAST, -1, 2, 256, MOST}) {
            check.due("as it is", x.shown(2, v), v);
        }
        x.palette(0, 1);
        for (int v : new int[] {LEAST, -1, 2, 256, MOST}) {
            check.due("a component of one bit", x.shown(0, v), v);
        }
    }
}
