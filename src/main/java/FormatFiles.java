import java.util.NoSuchElementException;

/** The state of a setter kept in files; see README.md. */
public final class FormatFiles {

    private static final int PARTS = 12;
    private static final int PLACES = 100;
    private static final int MOST_BYTES = 8000;
    private static final int MOST_SECTIONS = 255;
    private static final int MOST_VERSION = 200;
    private static final int COUNT_BYTES = 10;

    private static final int UNKNOWN = -1;
    private static final int OUTSIDE = -2;
    private static final int NOT_NOW = -3;
    private static final int NO_ROOM = -4;

    private static final int FIRST_MARK = 70;
    private static final int SECOND_MARK = 77;
    private static final int WHOLE = 0;
    private static final int CHANGES = 1;
    private static final int WHOLE_HEAD = 5;
    private static final int CHANGES_HEAD = 9;
    private static final int OWN_ROWS = 0;
    private static final int ROWS_OF_ANOTHER = 1;

    private static final int LOADED = 0;
    private static final int NO_FILE = 1;
    private static final int TOO_NEW = 2;
    private static final int OTHER_BASE = 3;
    private static final int ENDED = 4;
    private static final int IMPOSSIBLE = 5;
    private static final int WRONG_SUM = 6;
    private static final int SOURCE_REFUSED = 7;
    private static final int NEED_REFUSED = 8;

    private final Setter setter;
    private final Octets atHand;
    private final Writer writer;
    private final Loader loader;

    public FormatFiles() {
        setter = new Setter();
        atHand = new Octets(MOST_BYTES);
        writer = new Writer(setter);
        loader = new Loader(setter, atHand);
    }

    public int put(int part, int i, long v) {
        int refusal = refusalOfChange(part, i);
        if (refusal != 0) {
            return refusal;
        }
        setter.setEntry(part, i, v);
        return setter.parts[part].size;
    }

    public int take(int part, int i) {
        int refusal = refusalOfChange(part, i);
        if (refusal != 0) {
            return refusal;
        }
        return setter.dropEntry(part, i) ? 1 : 0;
    }

    public long get(int part, int i) throws NoSuchElementException {
        if (!isPart(part) || !isPlace(i) || !setter.parts[part].there[i]) {
            throw new NoSuchElementException("no such entry");
        }
        return setter.parts[part].values[i];
    }

    public int needs(int part, int other, boolean does) {
        if (!isPart(part) || !isPart(other)) {
            return UNKNOWN;
        }
        if (does && setter.leadsTo(other, part)) {
            return NOT_NOW;
        }
        return setter.setNeed(part, other, does) ? 1 : 0;
    }

    public int version(int v) {
        if (v < 1 || v > MOST_VERSION) {
            return OUTSIDE;
        }
        int before = setter.version;
        setter.version = v;
        return before;
    }

    public int mode(int m) {
        if (m < 0 || m > 1) {
            return OUTSIDE;
        }
        int before = setter.mode;
        setter.mode = m;
        return before;
    }

    public int busy(boolean is) {
        if (setter.isBusy == is) {
            return 0;
        }
        setter.isBusy = is;
        return 1;
    }

    public int save(boolean whole) {
        if (!whole && !setter.hasBase) {
            return NOT_NOW;
        }
        if (writer.lengthOf(whole) > MOST_BYTES) {
            return NO_ROOM;
        }
        writer.writeFile(whole, atHand);
        if (whole) {
            setter.startFrom(atHand.sumOf(0, atHand.length));
        }
        return atHand.length;
    }

    public byte octet(int i) throws ArrayIndexOutOfBoundsException {
        if (!atHand.holds(i)) {
            throw new ArrayIndexOutOfBoundsException("no such byte at hand");
        }
        return atHand.bytes[i];
    }

    public int cut(int n) {
        if (n < 0 || n > atHand.length) {
            return OUTSIDE;
        }
        atHand.length = n;
        return n;
    }

    public int add(byte b) {
        if (atHand.length >= MOST_BYTES) {
            return NO_ROOM;
        }
        atHand.append(b);
        return atHand.length;
    }

    public int poke(int i, int mask) {
        if (!atHand.holds(i)) {
            return UNKNOWN;
        }
        if (mask < 1 || mask > 255) {
            return OUTSIDE;
        }
        atHand.bytes[i] = (byte) (atHand.bytes[i] ^ mask);
        return atHand.at(i);
    }

    public int load() {
        if (setter.isBusy) {
            return NOT_NOW;
        }
        loader.sections = 0;
        if (atHand.length == 0) {
            return 0;
        }
        int refusal = loader.refusalAsWhole();
        return refusal == 0 ? loader.loadSections() : -10 - refusal;
    }

    public int told(int i, int what) {
        if (i < 0 || i >= loader.sections) {
            return UNKNOWN;
        }
        switch (what) {
            case 0:
                return loader.partOf[i];
            case 1:
                return loader.reasonOf[i];
            case 2:
                return loader.conflictsOf[i];
            default:
                return UNKNOWN;
        }
    }

    public int count(int what) {
        switch (what) {
            case 0:
                return loader.sections;
            case 1:
                return loader.allConflicts();
            case 2:
                return atHand.length;
            case 3:
                return Integer.bitCount(setter.partsWithEntries());
            case 4:
                return Integer.bitCount(setter.changed);
            case 5:
                return setter.allEntries();
            default:
                return OUTSIDE;
        }
    }

    public boolean same(int part, int other) {
        return isPart(part) && isPart(other) && setter.parts[part].isLike(setter.parts[other]);
    }

    private int refusalOfChange(int part, int i) {
        if (!isPart(part)) {
            return UNKNOWN;
        }
        if (!isPlace(i)) {
            return OUTSIDE;
        }
        return setter.isBusy ? NOT_NOW : 0;
    }

    private static boolean isPart(int part) {
        return part >= 0 && part < PARTS;
    }

    private static boolean isPlace(int i) {
        return i >= 0 && i < PLACES;
    }

    /** Sets of parts are held as the bits of an int. */
    private static boolean isIn(int set, int part) {
        return (set >>> part & 1) != 0;
    }

    /** The entries of a part, or the rows of a section; places are tested by the callers. */
    private static final class Entries {
        final boolean[] there = new boolean[PLACES];
        final long[] values = new long[PLACES];
        int size = 0;

        boolean holdsSame(int i, long v) {
            return there[i] && values[i] == v;
        }

        void set(int i, long v) {
            if (!there[i]) {
                there[i] = true;
                size++;
            }
            values[i] = v;
        }

        void drop(int i) {
            if (there[i]) {
                there[i] = false;
                size--;
            }
        }

        void clear() {
            for (int i = 0; i < PLACES; i++) {
                there[i] = false;
            }
            size = 0;
        }

        boolean isLike(Entries other) {
            if (size != other.size) {
                return false;
            }
            for (int i = 0; i < PLACES; i++) {
                if (there[i] && !other.holdsSame(i, values[i])) {
                    return false;
                }
            }
            return true;
        }
    }

    /** The parts, their needs, and which are changed since the base; numbers are tested by the callers. */
    private static final class Setter {
        final Entries[] parts = new Entries[PARTS];
        final int[] needed = new int[PARTS];
        int changed = 0;
        int version = 1;
        int mode = 0;
        boolean isBusy = false;
        boolean hasBase = false;
        int baseSum = 0;

        Setter() {
            for (int p = 0; p < PARTS; p++) {
                parts[p] = new Entries();
            }
        }

        /** What is put as it was there does not make the part a changed one. */
        void setEntry(int part, int i, long v) {
            if (!parts[part].holdsSame(i, v)) {
                parts[part].set(i, v);
                changed |= 1 << part;
            }
        }

        boolean dropEntry(int part, int i) {
            if (!parts[part].there[i]) {
                return false;
            }
            parts[part].drop(i);
            changed |= 1 << part;
            return true;
        }

        boolean setNeed(int part, int other, boolean does) {
            if (isIn(needed[part], other) == does) {
                return false;
            }
            needed[part] ^= 1 << other;
            return true;
        }

        /** Whether one part is the other or needs it, be it over others. */
        boolean leadsTo(int from, int to) {
            int reached = 1 << from;
            for (int round = 1; round < PARTS; round++) {
                for (int p = 0; p < PARTS; p++) {
                    if (isIn(reached, p)) {
                        reached |= needed[p];
                    }
                }
            }
            return isIn(reached, to);
        }

        /** The least part of a set that needs no other one of it; -1 when there is none. */
        int firstToWrite(int waiting) {
            for (int p = 0; p < PARTS; p++) {
                if (isIn(waiting, p) && (needed[p] & waiting) == 0) {
                    return p;
                }
            }
            return -1;
        }

        int partsWithEntries() {
            int found = 0;
            for (int p = 0; p < PARTS; p++) {
                if (parts[p].size > 0) {
                    found |= 1 << p;
                }
            }
            return found;
        }

        int allEntries() {
            int n = 0;
            for (int p = 0; p < PARTS; p++) {
                n += parts[p].size;
            }
            return n;
        }

        void startFrom(int sum) {
            hasBase = true;
            baseSum = sum;
            changed = 0;
        }

        /** Brings rows of a whole file to a part: how many conflicts there were. */
        int merge(int part, Entries rows) {
            int conflicts = 0;
            for (int i = 0; i < PLACES; i++) {
                if (!rows.there[i]) {
                    continue;
                }
                boolean isConflict = parts[part].there[i] && parts[part].values[i] != rows.values[i];
                if (isConflict) {
                    conflicts++;
                }
                if (!isConflict || mode == 1) {
                    setEntry(part, i, rows.values[i]);
                }
            }
            return conflicts;
        }

        /** Gives a part just the rows of a file of changes. */
        void replace(int part, Entries rows) {
            for (int i = 0; i < PLACES; i++) {
                if (rows.there[i]) {
                    setEntry(part, i, rows.values[i]);
                } else {
                    dropEntry(part, i);
                }
            }
        }
    }

    /** A row of bytes; bytes beyond its room are counted, but not held. */
    private static final class Octets {
        final byte[] bytes;
        int length = 0;

        Octets(int room) {
            bytes = new byte[Math.max(0, room)];
        }

        boolean holds(int i) {
            return i >= 0 && i < length && i < bytes.length;
        }

        int at(int i) {
            return holds(i) ? bytes[i] & 255 : 0;
        }

        void append(int b) {
            if (length < bytes.length) {
                bytes[length] = (byte) b;
            }
            length++;
        }

        void appendFour(int v) {
            for (int shift = 0; shift < 32; shift += 8) {
                append(v >>> shift & 255);
            }
        }

        void appendCount(long v) {
            long rest = v;
            for (int k = 1; k < COUNT_BYTES && rest >>> 7 != 0; k++) {
                append((int) (rest & 127) + 128);
                rest >>>= 7;
            }
            append((int) rest);
        }

        int fourAt(int i) {
            return at(i) | at(i + 1) << 8 | at(i + 2) << 16 | at(i + 3) << 24;
        }

        int sumOf(int from, int to) {
            int s = 0;
            for (int i = from; i < to; i++) {
                s = Integer.rotateLeft(s ^ at(i), 13) * 0xC2B2AE3D;
            }
            return s;
        }
    }

    /** Writes files; each is measured first, since the bytes at hand stay when it has no room. */
    private static final class Writer {
        private final Setter setter;
        private final Octets measure = new Octets(0);
        private final int[] order = new int[PARTS];

        Writer(Setter setter) {
            this.setter = setter;
        }

        int lengthOf(boolean whole) {
            writeFile(whole, measure);
            return measure.length;
        }

        void writeFile(boolean whole, Octets file) {
            int written = whole ? setter.partsWithEntries() : setter.changed;
            file.length = 0;
            writeHead(whole, file);
            file.append(Integer.bitCount(written));
            int waiting = written;
            for (int s = 0; s < PARTS && waiting != 0; s++) {
                int part = setter.firstToWrite(waiting);
                if (part < 0) {
                    break;
                }
                order[s] = part;
                writeSection(s, file);
                waiting &= ~(1 << part);
            }
        }

        private void writeHead(boolean whole, Octets file) {
            file.append(FIRST_MARK);
            file.append(SECOND_MARK);
            file.append(whole ? WHOLE : CHANGES);
            file.append(setter.version);
            if (!whole) {
                file.appendFour(setter.baseSum);
            }
        }

        private void writeSection(int s, Octets file) {
            int start = file.length;
            int source = firstAlike(s);
            file.append(order[s]);
            if (source < s) {
                file.append(ROWS_OF_ANOTHER);
                file.append(source);
            } else {
                file.append(OWN_ROWS);
                writeRows(setter.parts[order[s]], file);
            }
            file.appendFour(file.sumOf(start, file.length));
        }

        /** The first section with the rows of this one has them as its own; s itself when none is earlier. */
        private int firstAlike(int s) {
            Entries rows = setter.parts[order[s]];
            for (int e = 0; e < s; e++) {
                if (setter.parts[order[e]].isLike(rows)) {
                    return e;
                }
            }
            return s;
        }

        private void writeRows(Entries rows, Octets file) {
            file.appendCount(rows.size);
            int before = -1;
            for (int i = 0; i < PLACES; i++) {
                if (rows.there[i]) {
                    long v = rows.values[i];
                    file.appendCount(i - before - 1);
                    file.appendCount(v >= 0 ? v + v : -1 - v - v);
                    before = i;
                }
            }
        }
    }

    /** Reads a row of bytes; behind a fault it reads no more. */
    private static final class Reader {
        int position = 0;
        int fault = 0;
        private final Octets source;

        Reader(Octets source) {
            this.source = source;
        }

        void startAt(int start) {
            position = start;
            fault = 0;
        }

        void refuse(int reason) {
            if (fault == 0) {
                fault = reason;
            }
        }

        /** The next byte; 0 with a fault. */
        int next() {
            if (fault != 0) {
                return 0;
            }
            if (position < 0 || position >= source.length || position >= source.bytes.length) {
                fault = ENDED;
                return 0;
            }
            int b = source.bytes[position] & 255;
            position++;
            return b;
        }

        /** The next count, 64 bits without sign; 0 with a fault. */
        long nextCount() {
            long v = 0;
            for (int k = 0; k < COUNT_BYTES && fault == 0; k++) {
                int b = next();
                boolean isNeedless = k > 0 && b == 0;
                boolean isTooMuch = k == COUNT_BYTES - 1 && b > 1;
                if (isNeedless || isTooMuch) {
                    refuse(IMPOSSIBLE);
                }
                v |= (long) (b & 127) << 7 * k;
                if (b < 128) {
                    break;
                }
            }
            return fault == 0 ? v : 0;
        }

        /** The next four bytes as a number; 0 with a fault. */
        int nextFour() {
            int start = position;
            for (int k = 0; k < 4; k++) {
                next();
            }
            return fault == 0 ? source.fourAt(start) : 0;
        }

        void nextRows(Entries rows) {
            rows.clear();
            int n = within(nextCount(), PLACES);
            int least = 0;
            for (int e = 0; e < n && fault == 0; e++) {
                int place = least + within(nextCount(), PLACES - 1 - least);
                long v = nextCount();
                if (fault == 0) {
                    rows.set(place, (v & 1) == 0 ? v >>> 1 : -1 - (v >>> 1));
                }
                least = place + 1;
            }
        }

        /** A count as it is, if it is not above most; else 0 with a fault. */
        private int within(long count, int most) {
            if (count < 0 || count > most) {
                refuse(IMPOSSIBLE);
            }
            return fault == 0 ? (int) count : 0;
        }
    }

    /** Loads the bytes at hand, and keeps what is told of the latest loading. */
    private static final class Loader {
        int sections = 0;
        final int[] partOf = new int[MOST_SECTIONS];
        final int[] reasonOf = new int[MOST_SECTIONS];
        final int[] conflictsOf = new int[MOST_SECTIONS];
        private final Setter setter;
        private final Octets file;
        private final Reader reader;
        /** Reads rows again where they are wanted, so that those of all sections need not be kept. */
        private final Reader again;
        private final Entries rows = new Entries();
        /** For each part that was seen, where its rows begin, and the part whose section holds them. */
        private final int[] rowsAt = new int[PARTS];
        private final int[] sourceOf = new int[PARTS];
        private int seen = 0;
        private int refused = 0;

        Loader(Setter setter, Octets file) {
            this.setter = setter;
            this.file = file;
            reader = new Reader(file);
            again = new Reader(file);
        }

        int allConflicts() {
            int n = 0;
            for (int s = 0; s < sections; s++) {
                n += conflictsOf[s];
            }
            return n;
        }

        /** Why the file is refused as a whole; 0 when it is not. */
        int refusalAsWhole() {
            if (file.at(0) != FIRST_MARK || file.at(1) != SECOND_MARK || file.at(2) > CHANGES
                    || file.length < headLength()) {
                return NO_FILE;
            }
            if (file.at(3) > setter.version) {
                return TOO_NEW;
            }
            if (!isWhole() && (!setter.hasBase || setter.baseSum != file.fourAt(4))) {
                return OTHER_BASE;
            }
            return 0;
        }

        private boolean isWhole() {
            return file.at(2) == WHOLE;
        }

        private int headLength() {
            return isWhole() ? WHOLE_HEAD : CHANGES_HEAD;
        }

        /** How many sections were loaded of a file that is not refused as a whole. */
        int loadSections() {
            int loaded = 0;
            seen = 0;
            refused = 0;
            sections = file.at(headLength() - 1);
            reader.startAt(headLength());
            for (int s = 0; s < sections && s < MOST_SECTIONS; s++) {
                partOf[s] = -1;
                conflictsOf[s] = 0;
                reasonOf[s] = reader.fault == 0 ? readSection(s) : ENDED;
                if (reasonOf[s] == LOADED) {
                    conflictsOf[s] = loadSection(partOf[s]);
                    loaded++;
                } else if (partOf[s] >= 0) {
                    refused |= 1 << partOf[s];
                }
            }
            if (isWhole() && loaded == sections) {
                becomeBase();
            }
            return loaded;
        }

        /** Why the section is refused; LOADED when it is to be loaded. */
        private int readSection(int s) {
            int start = reader.position;
            int part = nextPart();
            if (reader.fault != 0) {
                return reader.fault;
            }
            partOf[s] = part;
            seen |= 1 << part;
            readRows(s, part);
            int sum = file.sumOf(start, reader.position);
            int toldSum = reader.nextFour();
            if (reader.fault != 0) {
                return reader.fault;
            }
            if (sum != toldSum) {
                return WRONG_SUM;
            }
            if (isIn(refused, sourceOf[part])) {
                return SOURCE_REFUSED;
            }
            return (refused & setter.needed[part]) != 0 ? NEED_REFUSED : LOADED;
        }

        private int nextPart() {
            int part = reader.next();
            if (!isPart(part) || isIn(seen, part)) {
                reader.refuse(IMPOSSIBLE);
            }
            return part;
        }

        private void readRows(int s, int part) {
            int kind = reader.next();
            sourceOf[part] = part;
            rowsAt[part] = reader.position;
            if (kind == OWN_ROWS) {
                reader.nextRows(rows);
            } else if (kind == ROWS_OF_ANOTHER) {
                int source = reader.next();
                if (source < s && hasOwnRows(partOf[source])) {
                    sourceOf[part] = partOf[source];
                    rowsAt[part] = rowsAt[partOf[source]];
                } else {
                    reader.refuse(IMPOSSIBLE);
                }
            } else {
                reader.refuse(IMPOSSIBLE);
            }
        }

        private boolean hasOwnRows(int part) {
            return isPart(part) && sourceOf[part] == part;
        }

        /** How many conflicts there were. */
        private int loadSection(int part) {
            readAgain(part);
            if (isWhole()) {
                return setter.merge(part, rows);
            }
            setter.replace(part, rows);
            return 0;
        }

        private void readAgain(int part) {
            again.startAt(rowsAt[part]);
            again.nextRows(rows);
        }

        /** Bytes behind the last section are no part of the base. */
        private void becomeBase() {
            setter.startFrom(file.sumOf(0, reader.position));
            for (int p = 0; p < PARTS; p++) {
                if (isIn(seen, p)) {
                    readAgain(p);
                } else {
                    rows.clear();
                }
                if (!setter.parts[p].isLike(rows)) {
                    setter.changed |= 1 << p;
                }
            }
        }
    }
}
