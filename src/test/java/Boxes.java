import java.io.ByteArrayOutputStream;

/** Files, boxes and numbers as rows of bytes, made without the class that is tested. */
final class Boxes {
    static final int SIGN = 0x6A502020;
    static final int KIND = 0x66747970;
    static final int HEAD = 0x6A703268;
    static final int SIZE = 0x69686472;
    static final int BITS = 0x62706363;
    static final int COLOUR = 0x636F6C72;
    static final int PALETTE = 0x70636C72;
    static final int MAP = 0x636D6170;
    static final int CHANNELS = 0x63646566;
    static final int RESOLUTION = 0x72657320;
    static final int CAPTURE = 0x72657363;
    static final int DISPLAY = 0x72657364;
    static final int STREAM = 0x6A703263;
    static final int OTHER = 0x75756964;

    private Boxes() {
    }

    static byte[] number(long v, int bytes) {
        byte[] row = new byte[bytes];
        for (int k = 0; k < bytes; k++) {
            row[k] = (byte) (v >> 8 * (bytes - 1 - k));
        }
        return row;
    }

    static byte[] u2(int... numbers) {
        byte[][] parts = new byte[numbers.length][];
        for (int k = 0; k < numbers.length; k++) {
            parts[k] = number(numbers[k], 2);
        }
        return join(parts);
    }

    static byte[] u4(long... numbers) {
        byte[][] parts = new byte[numbers.length][];
        for (int k = 0; k < numbers.length; k++) {
            parts[k] = number(numbers[k], 4);
        }
        return join(parts);
    }

    static byte[] bytes(int... numbers) {
        byte[] row = new byte[numbers.length];
        for (int k = 0; k < numbers.length; k++) {
            row[k] = (byte) numbers[k];
        }
        return row;
    }

    static byte[] join(byte[]... parts) {
        ByteArrayOutputStream all = new ByteArrayOutputStream();
        for (byte[] part : parts) {
            all.write(part, 0, part.length);
        }
        return all.toByteArray();
    }

    static byte[] box(int name, byte[]... parts) {
        byte[] content = join(parts);
        return join(u4(content.length + 8, name), content);
    }

    static byte[] farBox(int name, byte[]... parts) {
        byte[] content = join(parts);
        return join(u4(1, name), number(content.length + 16, 8), content);
    }

    /** A box that tells another length than it has. */
    static byte[] boxOfLength(long length, int name, byte[]... parts) {
        return join(u4(length, name), join(parts));
    }

    static byte[] sign() {
        return box(SIGN, u4(0x0D0A870A));
    }

    static byte[] kind() {
        return box(KIND, u4(0x6A703220, 0, 0x6A703220));
    }

    static byte[] size(long high, long wide, int components, int bits) {
        return box(SIZE, u4(high, wide), u2(components), bytes(bits, 7, 0, 0));
    }

    static byte[] colour(int colours) {
        return box(COLOUR, bytes(1, 0, 0), u4(colours));
    }

    static byte[] palette(int entries, int columns, int... rest) {
        return box(PALETTE, u2(entries), bytes(columns), bytes(rest));
    }

    static byte[] head(byte[]... parts) {
        return box(HEAD, parts);
    }

    /** The HEAD of a picture with three components of eight bits, with these boxes behind it. */
    static byte[] headWith(byte[]... parts) {
        return box(HEAD, size(5, 6, 3, 7), colour(16), join(parts));
    }

    static byte[] stream(int... picture) {
        return box(STREAM, bytes(picture));
    }

    /** SIGN and KIND, which are 32 bytes, and these boxes. */
    static byte[] file(byte[]... parts) {
        return join(sign(), kind(), join(parts));
    }

    static FileBoxes put(byte[] file) {
        FileBoxes x = new FileBoxes();
        putInto(x, file);
        return x;
    }

    static void putInto(FileBoxes x, byte[] file) {
        if (file.length > 500) {
            throw new IllegalArgumentException("an object is for 512 calls");
        }
        for (byte b : file) {
            x.put(b & 255);
        }
    }
}
