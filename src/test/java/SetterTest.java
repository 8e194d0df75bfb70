import java.util.NoSuchElementException;

/** Promises 1 to 8 and 17: the setter. */
public final class SetterTest {
    private static final int[] NO_PART = {-1, 12, Integer.MIN_VALUE, Integer.MAX_VALUE};
    private static final int[] NO_PLACE = {-1, 100, Integer.MIN_VALUE, Integer.MAX_VALUE};
    private static final Due DUE = new Due();

    public static void main(String[] args) {
        newObject();
        put();
        take();
        get();
        needs();
        needsOverOthers();
        version();
        mode();
        busy();
        same();
        DUE.end();
    }

    /** Promise 1. */
    private static void newObject() {
        FormatFiles x = new FormatFiles();
        for (int what = 0; what <= 5; what++) {
            DUE.is("new: count(" + what + ")", x.count(what), 0);
        }
        DUE.is("new: told(0, 0)", x.told(0, 0), -1);
        DUE.is("new: save(false)", x.save(false), -3);
        DUE.is("new: load()", x.load(), 0);
        DUE.isThrown("new: octet(0)", () -> x.octet(0), ArrayIndexOutOfBoundsException.class);
        for (int p = 0; p < 12; p++) {
            int part = p;
            DUE.isThrown("new: get(" + p + ", 0)", () -> x.get(part, 0), NoSuchElementException.class);
            for (int other = 0; other < 12; other++) {
                DUE.is("new: needs(" + p + ", " + other + ", false)", x.needs(p, other, false), 0);
            }
        }
        DUE.is("new: mode(0)", x.mode(0), 0);
        DUE.is("new: version(1)", x.version(1), 1);
        DUE.is("new: busy(false)", x.busy(false), 0);
        x.put(0, 0, 1);
        DUE.is("objects have nothing in common", new FormatFiles().count(5), 0);
    }

    /** Promise 2. */
    private static void put() {
        FormatFiles x = new FormatFiles();
        DUE.is("put at the first place", x.put(0, 0, 5), 1);
        DUE.is("put at the last place", x.put(0, 99, Long.MIN_VALUE), 2);
        DUE.is("put of the same", x.put(0, 0, 5), 2);
        DUE.is("put in place of another", x.put(0, 0, 6), 2);
        DUE.is("what is there then", x.get(0, 0), 6);
        DUE.is("put in the last part", x.put(11, 50, 0), 1);
        for (int p : NO_PART) {
            DUE.is("put in no part", x.put(p, 0, 1), -1);
            DUE.is("put in no part, no place", x.put(p, 100, 1), -1);
        }
        for (int i : NO_PLACE) {
            DUE.is("put at no place", x.put(0, i, 1), -2);
        }
        x.busy(true);
        DUE.is("put, busy", x.put(0, 0, 7), -3);
        DUE.is("put at no place, busy", x.put(0, 100, 7), -2);
        DUE.is("put in no part, busy", x.put(12, 0, 7), -1);
        DUE.is("what stays then", x.get(0, 0), 6);
        x.busy(false);
        DUE.is("put, no more busy", x.put(0, 1, 7), 3);
        for (int i = 0; i < 100; i++) {
            x.put(5, i, i);
        }
        DUE.is("put in a full part", x.put(5, 7, -7), 100);
    }

    /** Promise 3. */
    private static void take() {
        FormatFiles x = new FormatFiles();
        x.put(0, 0, 0);
        x.put(0, 99, 1);
        DUE.is("take", x.take(0, 0), 1);
        DUE.is("take again", x.take(0, 0), 0);
        DUE.isThrown("get what was taken", () -> x.get(0, 0), NoSuchElementException.class);
        DUE.is("take none", x.take(11, 0), 0);
        DUE.is("entries left", x.count(5), 1);
        for (int p : NO_PART) {
            DUE.is("take of no part", x.take(p, 0), -1);
            DUE.is("take of no part, no place", x.take(p, -1), -1);
        }
        for (int i : NO_PLACE) {
            DUE.is("take at no place", x.take(0, i), -2);
        }
        x.busy(true);
        DUE.is("take, busy", x.take(0, 99), -3);
        DUE.is("take none, busy", x.take(0, 1), -3);
        DUE.is("take at no place, busy", x.take(0, 100), -2);
        DUE.is("take of no part, busy", x.take(-1, 0), -1);
        DUE.is("what stays then", x.get(0, 99), 1);
        x.busy(false);
        DUE.is("take the last one", x.take(0, 99), 1);
        DUE.is("put where it was taken", x.put(0, 99, 2), 1);
    }

    /** Promise 4. */
    private static void get() {
        FormatFiles x = new FormatFiles();
        x.put(3, 0, Long.MAX_VALUE);
        x.put(3, 99, Long.MIN_VALUE);
        x.put(4, 0, 0);
        DUE.is("get the greatest", x.get(3, 0), Long.MAX_VALUE);
        DUE.is("get the least", x.get(3, 99), Long.MIN_VALUE);
        DUE.is("get 0", x.get(4, 0), 0);
        DUE.isThrown("get none", () -> x.get(3, 1), NoSuchElementException.class);
        for (int p : NO_PART) {
            DUE.isThrown("get of no part", () -> x.get(p, 0), NoSuchElementException.class);
        }
        for (int i : NO_PLACE) {
            DUE.isThrown("get at no place", () -> x.get(3, i), NoSuchElementException.class);
        }
        x.busy(true);
        DUE.is("get, busy", x.get(3, 0), Long.MAX_VALUE);
    }

    /** Promise 5. */
    private static void needs() {
        FormatFiles x = new FormatFiles();
        DUE.is("need", x.needs(0, 11, true), 1);
        DUE.is("need again", x.needs(0, 11, true), 0);
        DUE.is("need no more", x.needs(0, 11, false), 1);
        DUE.is("need no more, again", x.needs(0, 11, false), 0);
        DUE.is("then the other way", x.needs(11, 0, true), 1);
        DUE.is("needs itself", x.needs(4, 4, true), -3);
        DUE.is("needs itself not", x.needs(4, 4, false), 0);
        for (int p : NO_PART) {
            DUE.is("no part needs", x.needs(p, 0, true), -1);
            DUE.is("no part is needed", x.needs(0, p, true), -1);
            DUE.is("no part needs itself", x.needs(p, p, true), -1);
            DUE.is("no part needs not", x.needs(p, 0, false), -1);
            DUE.is("no part is not needed", x.needs(0, p, false), -1);
        }
        x.busy(true);
        DUE.is("needs, busy", x.needs(1, 2, true), 1);
    }

    private static void needsOverOthers() {
        FormatFiles x = new FormatFiles();
        for (int p = 11; p > 0; p--) {
            DUE.is("a chain", x.needs(p, p - 1, true), 1);
        }
        DUE.is("over all", x.needs(0, 11, true), -3);
        DUE.is("over two", x.needs(3, 5, true), -3);
        DUE.is("what was refused is not needed", x.needs(0, 11, false), 0);
        DUE.is("along the chain", x.needs(11, 0, true), 1);
        DUE.is("the chain is broken", x.needs(6, 5, false), 1);
        DUE.is("over none", x.needs(3, 9, true), 1);
        DUE.is("but over 11 and 0", x.needs(0, 11, true), -3);
        DUE.is("and over 3 and 9", x.needs(9, 3, true), -3);

        FormatFiles up = new FormatFiles();
        for (int p = 0; p < 11; p++) {
            DUE.is("a chain upwards", up.needs(p, p + 1, true), 1);
        }
        DUE.is("over all, upwards", up.needs(11, 0, true), -3);
    }

    /** Promise 6. */
    private static void version() {
        FormatFiles x = new FormatFiles();
        DUE.is("version(200)", x.version(200), 1);
        DUE.is("version(1)", x.version(1), 200);
        for (int v : new int[] {0, -1, 201, 256, Integer.MIN_VALUE, Integer.MAX_VALUE}) {
            DUE.is("version(" + v + ")", x.version(v), -2);
        }
        DUE.is("version(7)", x.version(7), 1);
        DUE.is("version(7) again", x.version(7), 7);
        x.save(true);
        DUE.is("the version in the file", x.octet(3), 7);
    }

    /** Promise 7. */
    private static void mode() {
        FormatFiles x = new FormatFiles();
        DUE.is("mode(1)", x.mode(1), 0);
        for (int m : new int[] {-1, 2, Integer.MIN_VALUE, Integer.MAX_VALUE}) {
            DUE.is("mode(" + m + ")", x.mode(m), -2);
        }
        DUE.is("mode(0)", x.mode(0), 1);
        DUE.is("mode(0) again", x.mode(0), 0);
    }

    /** Promise 8; the other promises look at what is refused then. */
    private static void busy() {
        FormatFiles x = new FormatFiles();
        DUE.is("busy(false) at first", x.busy(false), 0);
        DUE.is("busy(true)", x.busy(true), 1);
        DUE.is("busy(true) again", x.busy(true), 0);
        DUE.is("version, busy", x.version(2), 1);
        DUE.is("mode, busy", x.mode(1), 0);
        DUE.is("save, busy", x.save(true), 5);
        DUE.is("busy(false)", x.busy(false), 1);
        DUE.is("busy(false) again", x.busy(false), 0);
    }

    /** Promise 17. */
    private static void same() {
        FormatFiles x = new FormatFiles();
        DUE.is("without entries", x.same(0, 11), true);
        DUE.is("itself", x.same(0, 0), true);
        x.put(0, 1, 5);
        DUE.is("one has an entry", x.same(0, 1), false);
        DUE.is("the other has an entry", x.same(1, 0), false);
        x.put(1, 2, 5);
        DUE.is("another place", x.same(0, 1), false);
        x.take(1, 2);
        x.put(1, 1, 6);
        DUE.is("another entry", x.same(0, 1), false);
        x.put(1, 1, 5);
        DUE.is("the same entry", x.same(0, 1), true);
        x.put(0, 99, 1L << 40);
        x.put(1, 99, 1L << 41);
        DUE.is("another last entry", x.same(0, 1), false);
        x.take(0, 99);
        x.take(1, 99);
        DUE.is("what was taken does not count", x.same(0, 1), true);
        for (int p : NO_PART) {
            DUE.is("no such part", x.same(p, 0), false);
            DUE.is("no such other", x.same(0, p), false);
            DUE.is("neither", x.same(p, p), false);
        }
    }
}
