import java.util.List;

/** All that can be asked of an object with a short file and a short plan, to be compared. */
final class State {
    private State() {
    }

    static List<Long> of(FileBoxes x) {
        List<Long> all = ModelTest.planOf(x);
        int count = x.at(-1);
        all.add((long) count);
        for (int k = 0; k < count; k++) {
            all.add((long) x.at(k));
        }
        all.add((long) x.place());
        all.add(streamOf(x, 0));
        all.add(streamOf(x, 1));
        return all;
    }

    private static long streamOf(FileBoxes x, int what) {
        try {
            return x.stream(what);
        } catch (IllegalStateException e) {
            return -9;
        }
    }

    /** A plan with all that can be told, and a short file that has been scanned. */
    static FileBoxes full() {
        FileBoxes x = new FileBoxes();
        x.size(5, 6, 3, 7, false, false);
        x.colours(16);
        x.write(2, false);
        x.put(1);
        x.put(2);
        x.scan();
        x.size(3, 4, 2, 7, true, true);
        x.bits(1, 135);
        x.colours(0);
        x.profile(9);
        x.palette(2, 3);
        x.entry(1, 2, 200);
        x.map(0, 1, 2);
        x.channel(0, 1, 65535);
        x.resolution(false, 1, 2, 3, 4, 5, 6);
        x.resolution(true, 7, 8, 9, 10, -11, -12);
        return x;
    }
}
