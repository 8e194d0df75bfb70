import java.io.ByteArrayOutputStream;
import java.math.BigInteger;
import java.util.ArrayList;
import java.util.List;
import java.util.SortedMap;
import java.util.TreeMap;
import java.util.TreeSet;

/** The document once more, as plainly as the Java library allows, for RandomRunsTest. */
final class Model {
    /** One section as it is told. */
    private static final class Told {
        int part = -1;
        int reason = 4;
        int conflicts = 0;
        boolean isOwn = false;
        SortedMap<Integer, Long> rows = new TreeMap<>();
    }

    /** Reading that can't go on: 4 or 5. */
    private static final class Stop extends RuntimeException {
        private static final long serialVersionUID = 1;
        final int reason;

        Stop(int reason) {
            super(null, null, false, false);
            this.reason = reason;
        }
    }

    private static final BigInteger TWO64 = BigInteger.ONE.shiftLeft(64);

    final List<SortedMap<Integer, Long>> parts = new ArrayList<>();
    private final boolean[][] need = new boolean[12][12];
    private final TreeSet<Integer> changed = new TreeSet<>();
    private int version = 1;
    private int mode = 0;
    private boolean busy = false;
    private Integer baseSum = null;
    byte[] atHand = new byte[0];
    private List<Told> told = new ArrayList<>();
    private int position = 0;

    Model() {
        for (int p = 0; p < 12; p++) {
            parts.add(new TreeMap<>());
        }
    }

    private static boolean in(int v, int from, int to) {
        return from <= v && v <= to;
    }

    private void write(int part, int i, Long v) {
        Long before = v == null ? parts.get(part).remove(i) : parts.get(part).put(i, v);
        if (v == null ? before != null : !v.equals(before)) {
            changed.add(part);
        }
    }

    int put(int part, int i, long v) {
        if (!in(part, 0, 11)) {
            return -1;
        }
        if (!in(i, 0, 99)) {
            return -2;
        }
        if (busy) {
            return -3;
        }
        write(part, i, v);
        return parts.get(part).size();
    }

    int take(int part, int i) {
        if (!in(part, 0, 11)) {
            return -1;
        }
        if (!in(i, 0, 99)) {
            return -2;
        }
        if (busy) {
            return -3;
        }
        int size = parts.get(part).size();
        write(part, i, null);
        return size - parts.get(part).size();
    }

    /** null where NoSuchElementException is due. */
    Long get(int part, int i) {
        return in(part, 0, 11) ? parts.get(part).get(i) : null;
    }

    private boolean reaches(int from, int to) {
        if (from == to) {
            return true;
        }
        for (int p = 0; p < 12; p++) {
            if (need[from][p] && reaches(p, to)) {
                return true;
            }
        }
        return false;
    }

    int needs(int part, int other, boolean does) {
        if (!in(part, 0, 11) || !in(other, 0, 11)) {
            return -1;
        }
        if (does && reaches(other, part)) {
            return -3;
        }
        int answer = need[part][other] == does ? 0 : 1;
        need[part][other] = does;
        return answer;
    }

    int version(int v) {
        int before = version;
        if (!in(v, 1, 200)) {
            return -2;
        }
        version = v;
        return before;
    }

    int mode(int m) {
        int before = mode;
        if (!in(m, 0, 1)) {
            return -2;
        }
        mode = m;
        return before;
    }

    int busy(boolean is) {
        int answer = busy == is ? 0 : 1;
        busy = is;
        return answer;
    }

    static byte[] countOf(BigInteger v) {
        ByteArrayOutputStream out = new ByteArrayOutputStream();
        BigInteger rest = v;
        while (rest.bitLength() > 7) {
            out.write(rest.intValue() & 127 | 128);
            rest = rest.shiftRight(7);
        }
        out.write(rest.intValue());
        return out.toByteArray();
    }

    private static byte[] rowsOf(SortedMap<Integer, Long> rows) {
        ByteArrayOutputStream out = new ByteArrayOutputStream();
        out.writeBytes(countOf(BigInteger.valueOf(rows.size())));
        int before = -1;
        for (var e : rows.entrySet()) {
            out.writeBytes(countOf(BigInteger.valueOf(e.getKey() - before - 1)));
            BigInteger v = BigInteger.valueOf(e.getValue());
            out.writeBytes(countOf(v.signum() >= 0 ? v.add(v)
                    : BigInteger.ONE.negate().subtract(v).subtract(v)));
            before = e.getKey();
        }
        return out.toByteArray();
    }

    private List<Integer> order(TreeSet<Integer> written) {
        List<Integer> order = new ArrayList<>();
        TreeSet<Integer> waiting = new TreeSet<>(written);
        while (!waiting.isEmpty()) {
            Integer next = null;
            for (int p : waiting) {
                boolean isFree = waiting.stream().noneMatch(o -> need[p][o]);
                if (isFree && next == null) {
                    next = p;
                }
            }
            order.add(next);
            waiting.remove(next);
        }
        return order;
    }

    int save(boolean whole) {
        if (!whole && baseSum == null) {
            return -3;
        }
        TreeSet<Integer> written = new TreeSet<>(changed);
        if (whole) {
            written.clear();
            for (int p = 0; p < 12; p++) {
                if (!parts.get(p).isEmpty()) {
                    written.add(p);
                }
            }
        }
        HandFile file = whole ? HandFile.whole(version, written.size())
                : HandFile.changes(version, baseSum, written.size());
        List<Integer> order = order(written);
        for (int s = 0; s < order.size(); s++) {
            file.begin().bytes(order.get(s));
            int like = 0;
            while (!parts.get(order.get(like)).equals(parts.get(order.get(s)))) {
                like++;
            }
            if (like < s) {
                file.bytes(1, like);
            } else {
                file.bytes(0);
                for (byte b : rowsOf(parts.get(order.get(s)))) {
                    file.bytes(b);
                }
            }
            file.end();
        }
        byte[] row = file.toBytes();
        if (row.length > 8000) {
            return -4;
        }
        atHand = row;
        if (whole) {
            baseSum = HandFile.sum(row, 0, row.length);
            changed.clear();
        }
        return row.length;
    }

    /** null where ArrayIndexOutOfBoundsException is due. */
    Byte octet(int i) {
        return in(i, 0, atHand.length - 1) ? Byte.valueOf(atHand[i]) : null;
    }

    int cut(int n) {
        if (!in(n, 0, atHand.length)) {
            return -2;
        }
        atHand = java.util.Arrays.copyOf(atHand, n);
        return n;
    }

    int add(byte b) {
        if (atHand.length == 8000) {
            return -4;
        }
        atHand = java.util.Arrays.copyOf(atHand, atHand.length + 1);
        atHand[atHand.length - 1] = b;
        return atHand.length;
    }

    int poke(int i, int mask) {
        if (!in(i, 0, atHand.length - 1)) {
            return -1;
        }
        if (!in(mask, 1, 255)) {
            return -2;
        }
        atHand[i] ^= (byte) mask;
        return Byte.toUnsignedInt(atHand[i]);
    }

    int load() {
        if (busy) {
            return -3;
        }
        told = new ArrayList<>();
        if (atHand.length == 0) {
            return 0;
        }
        position = 0;
        boolean whole;
        int sections;
        int fileVersion;
        int sum = 0;
        try {
            if (next() != 70 || next() != 77) {
                return -11;
            }
            int kind = next();
            if (!in(kind, 0, 1)) {
                return -11;
            }
            whole = kind == 0;
            fileVersion = next();
            sum = whole ? 0 : nextFour();
            sections = next();
        } catch (Stop s) {
            return -11;
        }
        if (fileVersion > version) {
            return -12;
        }
        if (!whole && (baseSum == null || baseSum != sum)) {
            return -13;
        }
        return loadSections(whole, sections);
    }

    private int loadSections(boolean whole, int sections) {
        int loaded = 0;
        boolean stopped = false;
        for (int s = 0; s < sections; s++) {
            Told t = new Told();
            told.add(t);
            if (stopped) {
                continue;
            }
            try {
                t.reason = readSection(t, s);
            } catch (Stop stop) {
                t.reason = stop.reason;
                stopped = true;
            }
            if (t.reason == 0) {
                bring(t, whole);
                loaded++;
            }
        }
        if (whole && loaded == sections) {
            baseSum = HandFile.sum(atHand, 0, position);
            changed.clear();
            for (int p = 0; p < 12; p++) {
                SortedMap<Integer, Long> rows = new TreeMap<>();
                for (Told t : told) {
                    if (t.part == p) {
                        rows = t.rows;
                    }
                }
                if (!rows.equals(parts.get(p))) {
                    changed.add(p);
                }
            }
        }
        return loaded;
    }

    private int readSection(Told t, int s) {
        int start = position;
        int part = next();
        if (part > 11 || told.stream().anyMatch(o -> o.part == part)) {
            throw new Stop(5);
        }
        t.part = part;
        int kind = next();
        boolean sourceRefused = false;
        if (kind == 0) {
            t.isOwn = true;
            readRows(t.rows);
        } else if (kind == 1) {
            int source = next();
            if (source >= s || !told.get(source).isOwn) {
                throw new Stop(5);
            }
            t.rows = told.get(source).rows;
            sourceRefused = told.get(source).reason != 0;
        } else {
            throw new Stop(5);
        }
        int sum = HandFile.sum(atHand, start, position);
        if (nextFour() != sum) {
            return 6;
        }
        if (sourceRefused) {
            return 7;
        }
        for (int o = 0; o < s; o++) {
            if (told.get(o).reason != 0 && need[part][told.get(o).part]) {
                return 8;
            }
        }
        return 0;
    }

    private void readRows(SortedMap<Integer, Long> rows) {
        BigInteger n = nextCount();
        if (n.compareTo(BigInteger.valueOf(100)) > 0) {
            throw new Stop(5);
        }
        BigInteger place = BigInteger.ONE.negate();
        for (int e = 0; e < n.intValue(); e++) {
            place = place.add(BigInteger.ONE).add(nextCount());
            if (place.compareTo(BigInteger.valueOf(99)) > 0) {
                throw new Stop(5);
            }
            BigInteger c = nextCount();
            rows.put(place.intValue(), c.testBit(0)
                    ? c.add(BigInteger.ONE).shiftRight(1).negate().longValueExact()
                    : c.shiftRight(1).longValueExact());
        }
    }

    private BigInteger nextCount() {
        BigInteger v = BigInteger.ZERO;
        for (int k = 0; ; k++) {
            int b = next();
            if (b == 0 && k > 0 || k >= 10) {
                throw new Stop(5);
            }
            v = v.add(BigInteger.valueOf(b & 127).shiftLeft(7 * k));
            if (v.compareTo(TWO64) >= 0 || k == 9 && b > 127) {
                throw new Stop(5);
            }
            if (b < 128) {
                return v;
            }
        }
    }

    private int next() {
        if (position >= atHand.length) {
            throw new Stop(4);
        }
        return Byte.toUnsignedInt(atHand[position++]);
    }

    private int nextFour() {
        int v = 0;
        for (int k = 0; k < 4; k++) {
            v |= next() << 8 * k;
        }
        return v;
    }

    private void bring(Told t, boolean whole) {
        SortedMap<Integer, Long> part = parts.get(t.part);
        for (int i = 0; i < 100; i++) {
            Long here = part.get(i);
            Long there = t.rows.get(i);
            boolean isConflict = whole && here != null && there != null && !here.equals(there);
            if (isConflict) {
                t.conflicts++;
            }
            if (!whole || there != null && (!isConflict || mode == 1)) {
                write(t.part, i, there);
            }
        }
    }

    int told(int i, int what) {
        if (!in(i, 0, told.size() - 1) || !in(what, 0, 2)) {
            return -1;
        }
        Told t = told.get(i);
        return what == 0 ? t.part : what == 1 ? t.reason : t.conflicts;
    }

    int count(int what) {
        return switch (what) {
            case 0 -> told.size();
            case 1 -> told.stream().mapToInt(t -> t.conflicts).sum();
            case 2 -> atHand.length;
            case 3 -> (int) parts.stream().filter(p -> !p.isEmpty()).count();
            case 4 -> changed.size();
            case 5 -> parts.stream().mapToInt(SortedMap::size).sum();
            default -> -2;
        };
    }

    boolean same(int part, int other) {
        return in(part, 0, 11) && in(other, 0, 11) && parts.get(part).equals(parts.get(other));
    }

    /** What a file of changes has to tell to be one of this base. */
    int baseSumOr0() {
        return baseSum == null ? 0 : baseSum;
    }
}
