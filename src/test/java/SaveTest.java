import java.util.Arrays;

/** Promise 9: files as they are saved, byte by byte. */
public final class SaveTest {
    private static final Due DUE = new Due();

    public static void main(String[] args) {
        emptyFile();
        rows();
        longs();
        order();
        orderOverOthers();
        alike();
        changes();
        changesAlike();
        changesNeedBase();
        room();
        DUE.end();
    }

    private static void isAtHand(String what, FormatFiles x, HandFile want) {
        byte[] got = HandFile.atHand(x);
        DUE.is(what + " is " + Arrays.toString(got) + ", due " + Arrays.toString(want.toBytes()),
                Arrays.equals(got, want.toBytes()), true);
    }

    private static void emptyFile() {
        FormatFiles x = new FormatFiles();
        x.version(200);
        DUE.is("save of nothing", x.save(true), 5);
        isAtHand("the file of nothing", x, HandFile.whole(200, 0));
        DUE.is("changes of nothing", x.save(false), 9);
        isAtHand("the changes of nothing", x,
                HandFile.changes(200, HandFile.sum(HandFile.whole(200, 0).toBytes(), 0, 5), 0));
    }

    private static void rows() {
        FormatFiles x = new FormatFiles();
        x.put(7, 99, 1);
        x.put(7, 0, -1);
        x.put(7, 1, 64);
        x.put(7, 50, 3);
        x.take(7, 50);
        DUE.is("save", x.save(true), 19);
        isAtHand("rows by rising places", x, HandFile.whole(1, 1).section(7, 0, 3, 0, 1, 0, 128, 1, 97, 2));
        DUE.is("save again", x.save(true), 19);

        FormatFiles full = new FormatFiles();
        HandFile want = HandFile.whole(1, 1).begin().bytes(11, 0, 100);
        for (int i = 0; i < 100; i++) {
            full.put(11, i, i);
            want.count(0).count(2 * i);
        }
        DUE.is("save of a full part", full.save(true), 5 + 3 + 100 + 64 + 2 * 36 + 4);
        isAtHand("a full part", full, want.end());
    }

    private static void longs() {
        long[] row = {0, -1, 1, 63, -64, 64, -65, 8191, -8192, 8192, -8193, 1L << 55, -(1L << 55),
                1L << 62, (1L << 62) - 1, Long.MAX_VALUE, Long.MIN_VALUE};
        for (long v : row) {
            FormatFiles x = new FormatFiles();
            x.put(0, 5, v);
            x.save(true);
            HandFile want = HandFile.whole(1, 1).begin().bytes(0, 0, 1, 5);
            isAtHand("the long " + v, x, want.count(v < 0 ? -1 - v - v : v + v).end());
        }
    }

    private static void order() {
        FormatFiles x = new FormatFiles();
        for (int p = 0; p < 5; p++) {
            x.put(p, 0, p);
        }
        x.needs(0, 3, true);
        x.needs(1, 4, true);
        x.needs(3, 2, true);
        x.save(true);
        HandFile want = HandFile.whole(1, 5);
        for (int p : new int[] {2, 3, 0, 4, 1}) {
            want.section(p, 0, 1, 0, 2 * p);
        }
        isAtHand("parts behind those that they need", x, want);
        x.needs(0, 3, false);
        x.save(true);
        want = HandFile.whole(1, 5);
        for (int p : new int[] {0, 2, 3, 4, 1}) {
            want.section(p, 0, 1, 0, 2 * p);
        }
        isAtHand("parts that need no more", x, want);
    }

    private static void orderOverOthers() {
        FormatFiles x = new FormatFiles();
        x.put(0, 0, 1);
        x.put(2, 0, 2);
        x.needs(0, 1, true);
        x.needs(1, 2, true);
        x.save(true);
        isAtHand("a part that is not written puts none behind", x,
                HandFile.whole(1, 2).section(0, 0, 1, 0, 2).section(2, 0, 1, 0, 4));
    }

    private static void alike() {
        FormatFiles x = new FormatFiles();
        for (int p = 0; p < 6; p++) {
            x.put(p, 3, p % 2);
        }
        x.needs(0, 2, true);
        x.save(true);
        isAtHand("parts that are alike", x, HandFile.whole(1, 6)
                .section(1, 0, 1, 3, 2).section(2, 0, 1, 3, 0).section(0, 1, 1)
                .section(3, 1, 0).section(4, 1, 1).section(5, 1, 0));
    }

    private static void changes() {
        FormatFiles x = new FormatFiles();
        x.put(1, 1, 1);
        x.put(2, 2, 2);
        x.put(3, 3, 3);
        DUE.is("the base", x.save(true), 32);
        int sum = HandFile.sum(HandFile.atHand(x), 0, 32);
        x.take(3, 3);
        x.put(2, 3, -2);
        x.put(1, 1, 1);
        DUE.is("changes", x.save(false), 9 + 7 + 11);
        HandFile want = HandFile.changes(1, sum, 2).section(2, 0, 2, 2, 4, 0, 3).section(3, 0, 0);
        isAtHand("a changed part, and one without entries", x, want);
        DUE.is("changes again", x.save(false), 27);
        isAtHand("changed parts stay so, and the base", x, want);
        x.put(3, 3, 3);
        x.needs(2, 3, true);
        x.version(9);
        x.busy(true);
        DUE.is("changes, busy", x.save(false), 9 + 9 + 11);
        isAtHand("as it was is changed, too", x,
                HandFile.changes(9, sum, 2).section(3, 0, 1, 3, 6).section(2, 0, 2, 2, 4, 0, 3));
        x.busy(false);
        x.save(true);
        DUE.is("no changes behind a base", x.save(false), 9);
    }

    private static void changesAlike() {
        FormatFiles x = new FormatFiles();
        x.save(true);
        int sum = HandFile.sum(HandFile.atHand(x), 0, 5);
        for (int p = 4; p < 7; p++) {
            x.put(p, 0, 1);
            x.take(p, 0);
        }
        x.save(false);
        isAtHand("parts without entries are alike", x,
                HandFile.changes(1, sum, 3).section(4, 0, 0).section(5, 1, 0).section(6, 1, 0));
    }

    private static void changesNeedBase() {
        FormatFiles x = new FormatFiles();
        x.add((byte) 5);
        x.put(0, 0, 0);
        DUE.is("changes without a base", x.save(false), -3);
        DUE.is("bytes at hand stay", x.count(2), 1);
        x.save(true);
        DUE.is("changes with a base", x.save(false), 9);
        DUE.is("the third byte", x.octet(2), 1);
    }

    private static void room() {
        FormatFiles x = new FormatFiles();
        DUE.is("save of 8000 bytes", fill(x), 8000);
        byte last = x.octet(7999);
        DUE.is("one byte more in an entry", x.put(7, 21, 1L << 48), 22);
        DUE.is("save of 8001 bytes", x.save(true), -4);
        DUE.is("bytes at hand stay", x.count(2), 8000);
        DUE.is("the first of them", x.octet(0), 70);
        DUE.is("the last of them", x.octet(7999), last);
        DUE.is("the part is still changed", x.count(4), 1);
        DUE.is("changes", x.save(false), 9 + 7 + 22 + 21 * 10 + 8);
        FormatFiles y = new FormatFiles();
        fill(y);
        y.save(false);
        DUE.is("they are those of the base before", sumTold(x), sumTold(y));
        DUE.is("load of changes", x.load(), 1);
    }

    private static int sumTold(FormatFiles x) {
        int s = 0;
        for (int i = 0; i < 4; i++) {
            s |= (x.octet(4 + i) & 255) << 8 * i;
        }
        return s;
    }

    /** Saves a whole file of just 8000 bytes: seven full parts, and a last one with 22 entries. */
    static int fill(FormatFiles x) {
        for (int i = 0; i < 100; i++) {
            x.put(0, i, Long.MAX_VALUE - i);
        }
        x.save(true);
        x.poke(4, 1 ^ 7);
        for (int p = 1; p < 7; p++) {
            for (byte b : new HandFile().section(p, 1, 0).toBytes()) {
                x.add(b);
            }
        }
        x.load();
        for (int p = 1; p < 7; p++) {
            x.put(p, p, Long.MIN_VALUE + p);
        }
        for (int i = 0; i < 21; i++) {
            x.put(7, i, Long.MIN_VALUE);
        }
        x.put(7, 21, (1L << 48) - 1);
        return x.save(true);
    }
}
