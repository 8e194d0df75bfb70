import java.io.ByteArrayOutputStream;

/** A file written by hand, byte by byte, with nothing of FormatFiles in it. */
final class HandFile {
    private final ByteArrayOutputStream out = new ByteArrayOutputStream();
    private int sectionStart = 0;

    static HandFile whole(int version, int sections) {
        return new HandFile().bytes(70, 77, 0, version, sections);
    }

    static HandFile changes(int version, int baseSum, int sections) {
        return new HandFile().bytes(70, 77, 1, version).four(baseSum).bytes(sections);
    }

    static int sum(byte[] row, int from, int to) {
        long s = 0;
        for (int i = from; i < to; i++) {
            s ^= row[i] & 0xFFL;
            s = (s << 13 | s >>> 19) & 0xFFFFFFFFL;
            s = s * 0xC2B2AE3DL & 0xFFFFFFFFL;
        }
        return (int) s;
    }

    HandFile bytes(int... row) {
        for (int b : row) {
            out.write(b);
        }
        return this;
    }

    HandFile four(int v) {
        return bytes(v & 255, v >> 8 & 255, v >> 16 & 255, v >> 24 & 255);
    }

    HandFile count(long v) {
        long rest = v;
        while (Long.compareUnsigned(rest, 127) > 0) {
            out.write((int) Long.remainderUnsigned(rest, 128) + 128);
            rest = Long.divideUnsigned(rest, 128);
        }
        return bytes((int) rest);
    }

    /** A section with its sum, the bytes of it being given. */
    HandFile section(int... row) {
        return begin().bytes(row).end();
    }

    HandFile begin() {
        sectionStart = out.size();
        return this;
    }

    HandFile end() {
        return four(sum(out.toByteArray(), sectionStart, out.size()));
    }

    HandFile wrongEnd() {
        return four(sum(out.toByteArray(), sectionStart, out.size()) ^ 0x80000000);
    }

    byte[] toBytes() {
        return out.toByteArray();
    }

    /** In place of the bytes at hand. */
    HandFile into(FormatFiles x) {
        x.cut(0);
        for (byte b : toBytes()) {
            x.add(b);
        }
        return this;
    }

    /** In place of the bytes at hand, and then loaded: what load() answers. */
    int load(FormatFiles x) {
        into(x);
        return x.load();
    }

    /** The sum of all its bytes, by which it is known as a base. */
    int sum() {
        return sum(toBytes(), 0, out.size());
    }

    static byte[] atHand(FormatFiles x) {
        byte[] row = new byte[x.count(2)];
        for (int i = 0; i < row.length; i++) {
            row[i] = x.octet(i);
        }
        return row;
    }
}
