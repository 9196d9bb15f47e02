/** Promises 1 to 15: what is told of a plan, and what is asked of it. */
public final class PlanTest {
    private static final Check check = new Check();

    public static void main(String[] args) {
        newObject();
        emptiedPlan();
        size();
        bits();
        colours();
        profile();
        palette();
        column();
        entry();
        map();
        channel();
        resolution();
        get();
        number();
        shown();
        check.end();
    }

    private static void dueEmptyPlan(String when, FileBoxes x) {
        for (int what = 0; what <= 10; what++) {
            check.due(when + " get(" + what + ")", x.get(what, -7), what == 6 ? -1 : 0);
        }
        for (int what = 20; what <= 28; what++) {
            int w = what;
            check.isThrown(when + " get(" + what + ", 0)", Check.NONE, () -> x.get(w, 0));
        }
        for (int k = 0; k < 6; k++) {
            check.due(when + " capture " + k, x.get(30 + k, 0), 0);
            check.due(when + " display " + k, x.get(40 + k, 0), 0);
        }
        check.isThrown(when + " number(0, 0)", Check.NONE, () -> x.number(0, 0));
        check.isThrown(when + " shown(0, 0)", Check.NONE, () -> x.shown(0, 0));
        check.isThrown(when + " profile(0)", Check.STATE, () -> x.profile(0));
        check.isThrown(when + " map(0, 0, 0)", Check.STATE, () -> x.map(0, 0, 0));
        check.isThrown(when + " write(0, false)", Check.STATE, () -> x.write(0, false));
    }

    private static FileBoxes fullPlan() {
        FileBoxes x = new FileBoxes();
        x.size(3, 4, 2, 7, true, true);
        x.bits(1, 135);
        x.colours(0);
        x.profile(9);
        x.palette(2, 3);
        x.entry(1, 2, 200);
        x.map(0, 1, 2);
        x.channel(0, 1, 65535);
        x.resolution(false, 1, 2, 3, 4, 5, 6);
        x.resolution(true, 7, 8, 9, 10, -11, -12);
        return x;
    }

    private static void newObject() {
        FileBoxes x = new FileBoxes();
        dueEmptyPlan("new", x);
        check.due("new at(-1)", x.at(-1), 0);
        check.due("new place()", x.place(), -1);
        check.isThrown("new stream(0)", Check.STATE, () -> x.stream(0));
    }

    private static void emptiedPlan() {
        FileBoxes x = fullPlan();
        x.put(5);
        x.plan();
        dueEmptyPlan("emptied", x);
        check.due("the file stays", x.at(0), 5);
        x.size(1, 1, 2, 7, false, false);
        x.palette(2, 3);
        x.colours(0);
        check.due("no number is left", x.number(1, 2), 0);
        check.due("no byte is left", x.get(6, 0), 0);
        check.due("lines begin anew", x.channel(0, 0, 0), 1);
        check.due("the map begins anew", x.map(0, 0, 0), 1);
    }

    private static void size() {
        FileBoxes x = fullPlan();
        x.size(Integer.MAX_VALUE, 1, 16, 165, false, true);
        check.due("high", x.get(0, 0), Integer.MAX_VALUE);
        check.due("wide", x.get(1, 0), 1);
        check.due("components", x.get(2, 0), 16);
        check.due("unknown", x.get(3, 0), 0);
        check.due("rights", x.get(4, 0), 1);
        for (int c = 0; c < 16; c++) {
            check.due("bits " + c, x.get(20, c), 165);
        }
        check.due("the profile stays", x.get(6, 0), 1);
        check.due("the palette stays", x.number(1, 2), 200);
        check.due("the map stays", x.get(9, 0), 1);
        check.due("lines stay", x.get(10, 0), 1);
        check.due("capture stays", x.get(30, 0), 1);
        check.due("display stays", x.get(40, 0), 7);
        x.size(1, Integer.MAX_VALUE, 1, 0, true, false);
        check.due("unknown again", x.get(3, 0), 1);
        check.due("rights again", x.get(4, 0), 0);
        dueSizeRefused(x, 0, 1, 1, 7);
        dueSizeRefused(x, 1, 0, 1, 7);
        dueSizeRefused(x, -1, 1, 1, 7);
        dueSizeRefused(x, 1, Integer.MIN_VALUE, 1, 7);
        dueSizeRefused(x, 1, 1, 0, 7);
        dueSizeRefused(x, 1, 1, 17, 7);
        dueSizeRefused(x, 1, 1, -1, 7);
        for (int bits : new int[] {-1, 38, 127, 166, 255, 256, 256 + 128, -128, Integer.MIN_VALUE}) {
            dueSizeRefused(x, 1, 1, 1, bits);
        }
        x.size(1, 1, 1, 37, true, false);
        x.size(1, 1, 1, 128, true, false);
        check.due("bits 128", x.get(20, 0), 128);
    }

    private static void dueSizeRefused(FileBoxes x, int high, int wide, int components, int bits) {
        String call = "size(" + high + ", " + wide + ", " + components + ", " + bits + ")";
        check.isThrown(call, Check.ARGUMENT, () -> x.size(high, wide, components, bits, false, true));
        check.due(call + " changed wide", x.get(1, 0), Integer.MAX_VALUE);
        check.due(call + " changed rights", x.get(4, 0), 0);
    }

    private static void bits() {
        FileBoxes x = new FileBoxes();
        check.isThrown("bits without a size", Check.NONE, () -> x.bits(0, 999));
        x.size(1, 1, 3, 7, false, false);
        x.bits(2, 165);
        check.due("bits 0", x.get(20, 0), 7);
        check.due("bits 2", x.get(20, 2), 165);
        check.isThrown("bits(3, 38)", Check.NONE, () -> x.bits(3, 38));
        check.isThrown("bits(-1, 7)", Check.NONE, () -> x.bits(-1, 7));
        for (int bits : new int[] {-1, 38, 127, 166, 255}) {
            check.isThrown("bits(2, " + bits + ")", Check.ARGUMENT, () -> x.bits(2, bits));
        }
        check.due("bits 2 stay", x.get(20, 2), 165);
    }

    private static void colours() {
        FileBoxes x = new FileBoxes();
        for (int colours = 16; colours <= 18; colours++) {
            x.colours(colours);
            check.due("colours", x.get(5, 0), colours);
            check.due("no profile", x.get(6, 0), -1);
        }
        x.colours(0);
        check.due("no colours", x.get(5, 0), 0);
        check.due("profile without bytes", x.get(6, 0), 0);
        x.profile(1);
        x.profile(2);
        for (int colours : new int[] {-1, 1, 15, 19, 16 + 256}) {
            check.isThrown("colours(" + colours + ")", Check.ARGUMENT, () -> x.colours(colours));
        }
        check.due("the profile stays", x.get(6, 0), 2);
        x.colours(0);
        check.due("the profile is new", x.get(6, 0), 0);
        check.due("and grows anew", x.profile(7), 1);
        x.colours(17);
        check.due("the profile goes", x.get(6, 0), -1);
        check.isThrown("its byte goes", Check.NONE, () -> x.get(21, 0));
    }

    private static void profile() {
        FileBoxes x = new FileBoxes();
        check.isThrown("profile(256) without one", Check.STATE, () -> x.profile(256));
        x.colours(16);
        check.isThrown("profile(1) with colours", Check.STATE, () -> x.profile(1));
        x.colours(0);
        check.isThrown("profile(-1)", Check.ARGUMENT, () -> x.profile(-1));
        check.isThrown("profile(256)", Check.ARGUMENT, () -> x.profile(256));
        for (int k = 0; k < 300; k++) {
            check.due("profile", x.profile(k & 255), k + 1);
        }
        check.due("byte 255", x.get(21, 255), 255);
        check.due("byte 299", x.get(21, 299), 299 & 255);
        check.isThrown("byte 300", Check.NONE, () -> x.get(21, 300));
        fullProfile();
    }

    /** A profile of 1020 bytes is read, so that few calls are needed to fill it. */
    private static void fullProfile() {
        FileBoxes x = ScanTest.withLongProfile(1020);
        check.due("scan of a long profile", x.scan(), 0);
        for (int k = 1021; k <= 1024; k++) {
            check.due("profile", x.profile(k & 255), k);
        }
        check.isThrown("profile(3) beyond", Check.UNSUPPORTED, () -> x.profile(3));
        check.isThrown("profile(300) beyond", Check.ARGUMENT, () -> x.profile(300));
        check.due("the profile is full", x.get(6, 0), 1024);
        check.due("its last byte", x.get(21, 1023), 1024 & 255);
    }

    private static void palette() {
        FileBoxes x = new FileBoxes();
        x.palette(1024, 4);
        check.due("entries", x.get(7, 0), 1024);
        check.due("columns", x.get(8, 0), 4);
        check.due("bits of a column", x.get(22, 3), 7);
        check.isThrown("column 4", Check.NONE, () -> x.get(22, 4));
        x.entry(1023, 3, 255);
        x.column(3, 37);
        x.map(0, 1, 3);
        duePaletteRefused(x, -1, 1);
        duePaletteRefused(x, 1025, 1);
        duePaletteRefused(x, 1, 0);
        duePaletteRefused(x, 1, 9);
        duePaletteRefused(x, 0, 0);
        duePaletteRefused(x, 0, 9);
        duePaletteRefused(x, 1024, 5);
        duePaletteRefused(x, 513, 8);
        duePaletteRefused(x, Integer.MAX_VALUE, Integer.MAX_VALUE);
        x.palette(512, 8);
        check.due("numbers are 0", x.number(511, 7), 0);
        check.due("bits are 7", x.get(22, 3), 7);
        check.due("no map", x.get(9, 0), 0);
        x.palette(1024, 4);
        check.due("numbers are 0 again", x.number(1023, 3), 0);
        x.map(0, 0, 0);
        x.palette(0, 8);
        check.due("no entries", x.get(7, 0), 0);
        check.due("no columns", x.get(8, 0), 0);
        check.due("no map without", x.get(9, 0), 0);
        check.isThrown("no number", Check.NONE, () -> x.number(0, 0));
    }

    private static void duePaletteRefused(FileBoxes x, int entries, int columns) {
        String call = "palette(" + entries + ", " + columns + ")";
        check.isThrown(call, Check.ARGUMENT, () -> x.palette(entries, columns));
        check.due(call + " changed a number", x.number(1023, 3), 255);
        check.due(call + " changed the map", x.get(9, 0), 1);
        check.due(call + " changed bits", x.get(22, 3), 37);
    }

    private static void column() {
        FileBoxes x = new FileBoxes();
        check.isThrown("column without a palette", Check.NONE, () -> x.column(0, 999));
        x.palette(2, 2);
        x.entry(1, 1, 255);
        x.map(0, 1, 1);
        x.column(1, 128);
        check.due("bits", x.get(22, 1), 128);
        check.due("bits of the other one", x.get(22, 0), 7);
        check.due("the number stays", x.number(1, 1), 255);
        check.due("and is shown", x.shown(0, 1), 255);
        check.isThrown("column(2, 99)", Check.NONE, () -> x.column(2, 99));
        check.isThrown("column(-1, 7)", Check.NONE, () -> x.column(-1, 7));
        for (int bits : new int[] {-1, 38, 127, 166, 255}) {
            check.isThrown("column(1, " + bits + ")", Check.ARGUMENT, () -> x.column(1, bits));
        }
        check.due("bits stay", x.get(22, 1), 128);
    }

    private static void entry() {
        FileBoxes x = new FileBoxes();
        check.isThrown("entry without a palette", Check.NONE, () -> x.entry(0, 0, -1));
        x.palette(3, 4);
        x.column(1, 37);
        x.column(2, 165);
        x.column(3, 128);
        dueFits(x, 0, 0, 255);
        dueFits(x, 1, 0, (1L << 38) - 1);
        dueFits(x, 2, -(1L << 37), (1L << 37) - 1);
        dueFits(x, 3, -1, 0);
        x.column(3, 0);
        x.entry(0, 3, 0);
        dueFits(x, 3, 0, 1);
        int[][] none = {{3, 0}, {-1, 0}, {0, 4}, {0, -1}, {Integer.MAX_VALUE, 0}, {Integer.MIN_VALUE, 3}};
        for (int[] at : none) {
            check.isThrown("entry " + at[0] + ", " + at[1], Check.NONE, () -> x.entry(at[0], at[1], -1));
        }
    }

    private static void dueFits(FileBoxes x, int c, long lowest, long highest) {
        x.entry(2, c, lowest);
        check.due("lowest of column " + c, x.number(2, c), lowest);
        x.entry(2, c, highest);
        for (long v : new long[] {lowest - 1, highest + 1, Long.MIN_VALUE, Long.MAX_VALUE}) {
            check.isThrown("entry of column " + c + " " + v, Check.ARGUMENT, () -> x.entry(2, c, v));
        }
        check.due("highest of column " + c, x.number(2, c), highest);
        check.due("another entry of column " + c, x.number(1, c), 0);
    }

    private static void map() {
        FileBoxes x = new FileBoxes();
        check.isThrown("map without a palette", Check.STATE, () -> x.map(99, 99, 99));
        x.palette(1, 2);
        int[][] wrong = {{-1, 0, 0}, {16, 0, 0}, {0, 2, 0}, {0, -1, 0}, {0, 0, 1}, {0, 0, -1}, {0, 1, 2}, {0, 1, -1}};
        for (int[] w : wrong) {
            check.isThrown("map " + w[0] + ", " + w[1] + ", " + w[2], Check.ARGUMENT, () -> x.map(w[0], w[1], w[2]));
        }
        check.due("map", x.map(15, 1, 1), 1);
        check.due("map", x.map(3, 0, 0), 2);
        check.due("component", x.get(23, 0), 15);
        check.due("way", x.get(24, 0), 1);
        check.due("column", x.get(25, 0), 1);
        check.due("component of the second", x.get(23, 1), 3);
        check.due("way of the second", x.get(24, 1), 0);
        for (int k = 3; k <= 16; k++) {
            check.due("map", x.map(0, 0, 0), k);
        }
        check.isThrown("map beyond", Check.STATE, () -> x.map(0, 0, 0));
        check.isThrown("map beyond, wrong too", Check.STATE, () -> x.map(-1, 0, 0));
        check.due("the map is full", x.get(9, 0), 16);
    }

    private static void channel() {
        FileBoxes x = new FileBoxes();
        int[][] wrong = {{-1, 0, 0}, {16, 0, 0}, {0, -1, 0}, {0, 3, 0}, {0, 65534, 0}, {0, 65536, 0}, {0, 0, -1}, {0, 0, 65536}};
        for (int[] w : wrong) {
            check.isThrown("channel " + w[0] + ", " + w[1] + ", " + w[2], Check.ARGUMENT, () -> x.channel(w[0], w[1], w[2]));
        }
        check.due("channel", x.channel(15, 65535, 65535), 1);
        check.due("channel", x.channel(3, 2, 0), 2);
        check.due("channel told", x.get(26, 0), 15);
        check.due("type told", x.get(27, 0), 65535);
        check.due("to told", x.get(28, 0), 65535);
        check.due("channel of the second", x.get(26, 1), 3);
        check.due("type of the second", x.get(27, 1), 2);
        check.isThrown("channel 3 again", Check.STATE, () -> x.channel(3, 0, 0));
        check.isThrown("channel 15 again", Check.STATE, () -> x.channel(15, 0, 0));
        check.isThrown("channel 3 again, wrong too", Check.ARGUMENT, () -> x.channel(3, 3, 0));
        check.due("lines", x.get(10, 0), 2);
        for (int k = 0; k < 15; k++) {
            if (k != 3) {
                x.channel(k, k % 3, k);
            }
        }
        check.due("all lines", x.get(10, 0), 16);
        check.isThrown("one more", Check.STATE, () -> x.channel(0, 0, 0));
    }

    private static void resolution() {
        FileBoxes x = new FileBoxes();
        x.resolution(false, 1, 65535, 2, 65534, -128, 127);
        x.resolution(true, 65535, 1, 3, 4, 127, -128);
        int[] capture = {1, 65535, 2, 65534, -128, 127};
        int[] display = {65535, 1, 3, 4, 127, -128};
        int[][] wrong = {{0, 1, 1, 1, 0, 0}, {1, 0, 1, 1, 0, 0}, {1, 1, 0, 1, 0, 0}, {1, 1, 1, 0, 0, 0},
            {65536, 1, 1, 1, 0, 0}, {1, 65536, 1, 1, 0, 0}, {1, 1, 65536, 1, 0, 0}, {1, 1, 1, 65536, 0, 0},
            {-1, 1, 1, 1, 0, 0}, {1, 1, 1, 1, 128, 0}, {1, 1, 1, 1, -129, 0}, {1, 1, 1, 1, 0, 128},
            {1, 1, 1, 1, 0, -129}, {0, 0, 0, 0, 1, 0}, {0, 0, 0, 0, 0, 1}, {0, 0, 0, 0, 0, 128}};
        for (int[] w : wrong) {
            for (int d = 0; d < 2; d++) {
                boolean onDisplay = d == 1;
                check.isThrown("resolution " + java.util.Arrays.toString(w), Check.ARGUMENT,
                        () -> x.resolution(onDisplay, w[0], w[1], w[2], w[3], w[4], w[5]));
            }
        }
        for (int k = 0; k < 6; k++) {
            check.due("capture " + k, x.get(30 + k, 9), capture[k]);
            check.due("display " + k, x.get(40 + k, -9), display[k]);
        }
        x.resolution(false, 0, 0, 0, 0, 0, 0);
        for (int k = 0; k < 6; k++) {
            check.due("no capture " + k, x.get(30 + k, 0), 0);
            check.due("still display " + k, x.get(40 + k, 0), display[k]);
        }
    }

    private static void get() {
        FileBoxes x = fullPlan();
        int[] single = {3, 4, 2, 1, 1, 0, 1, 2, 3, 1, 1};
        for (int what = 0; what < single.length; what++) {
            check.due("get(" + what + ")", x.get(what, Integer.MAX_VALUE), single[what]);
        }
        int[] first = {7, 9, 7, 0, 1, 2, 0, 1, 65535};
        int[] count = {2, 1, 3, 1, 1, 1, 1, 1, 1};
        for (int k = 0; k < first.length; k++) {
            int what = 20 + k;
            int beyond = count[k];
            check.due("get(" + what + ", 0)", x.get(what, 0), first[k]);
            check.isThrown("get(" + what + ", beyond)", Check.NONE, () -> x.get(what, beyond));
            check.isThrown("get(" + what + ", -1)", Check.NONE, () -> x.get(what, -1));
        }
        check.due("get(20, 1)", x.get(20, 1), 135);
        int[] none = {-1, 11, 19, 29, 36, 39, 46, Integer.MIN_VALUE, Integer.MAX_VALUE};
        for (int what : none) {
            check.isThrown("get(" + what + ", 0)", Check.NONE, () -> x.get(what, 0));
        }
    }

    private static void number() {
        FileBoxes x = new FileBoxes();
        x.palette(4, 3);
        for (int i = 0; i < 4; i++) {
            for (int c = 0; c < 3; c++) {
                x.entry(i, c, 10 * i + c);
            }
        }
        for (int i = 0; i < 4; i++) {
            for (int c = 0; c < 3; c++) {
                check.due("number(" + i + ", " + c + ")", x.number(i, c), 10 * i + c);
            }
        }
        int[][] none = {{4, 0}, {-1, 0}, {0, 3}, {0, -1}, {1, -1}, {Integer.MAX_VALUE, 2}, {2, Integer.MIN_VALUE}};
        for (int[] at : none) {
            check.isThrown("number " + at[0] + ", " + at[1], Check.NONE, () -> x.number(at[0], at[1]));
        }
    }

    private static void shown() {
        FileBoxes x = new FileBoxes();
        x.size(1, 1, 2, 7, false, false);
        check.due("a component", x.shown(1, Integer.MIN_VALUE), Integer.MIN_VALUE);
        check.isThrown("no such component", Check.NONE, () -> x.shown(2, 0));
        check.isThrown("channel -1", Check.NONE, () -> x.shown(-1, 0));
        x.palette(3, 2);
        check.due("a palette without a map", x.shown(1, 77), 77);
        x.column(1, 165);
        x.entry(0, 1, -5);
        x.entry(1, 1, 1L << 36);
        x.entry(2, 1, -(1L << 37));
        x.map(9, 0, 0);
        check.due("as it is", x.shown(0, -3), -3);
        check.isThrown("the map counts, not components", Check.NONE, () -> x.shown(1, 0));
        x.map(0, 1, 1);
        check.due("in entry 1", x.shown(1, 1), 1L << 36);
        check.due("in the last one", x.shown(1, 2), -(1L << 37));
        check.due("beyond the last one", x.shown(1, 3), -(1L << 37));
        check.due("far beyond", x.shown(1, Integer.MAX_VALUE), -(1L << 37));
        check.due("below the first one", x.shown(1, -1), -5);
        check.due("far below", x.shown(1, Integer.MIN_VALUE), -5);
        x.entry(2, 0, 99);
        x.map(0, 1, 0);
        check.due("by column 0", x.shown(2, 2), 99);
        check.isThrown("channel 3", Check.NONE, () -> x.shown(3, 0));
    }
}
