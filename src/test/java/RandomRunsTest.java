import java.util.ArrayList;
import java.util.List;
import java.util.NoSuchElementException;
import java.util.Random;

/** Random runs of at most 512 calls, each answer compared with that of the Model. */
public final class RandomRunsTest {
    private static final int RUNS = 6000;
    private static final int CALLS = 512;
    private static final int[] ODD = {-1, 12, 100, 101, 255, 256, 8000, Integer.MIN_VALUE, Integer.MAX_VALUE};
    private static final Due DUE = new Due();

    private final Random random;
    private final FormatFiles x = new FormatFiles();
    private final Model model = new Model();
    private final List<byte[]> kept = new ArrayList<>();
    private final int parts;
    private final int places;
    private int calls = 0;

    private RandomRunsTest(int seed) {
        random = new Random(seed);
        parts = 1 + random.nextInt(12);
        places = random.nextInt(4) == 0 ? 100 : 1 + random.nextInt(5);
    }

    public static void main(String[] args) {
        for (int seed = 0; seed < RUNS; seed++) {
            DUE.sentence("run " + seed);
            new RandomRunsTest(seed).run();
        }
        DUE.end();
    }

    private void run() {
        try {
            while (calls < CALLS) {
                step();
            }
        } catch (RuntimeException e) {
            DUE.is("throws of " + e + " at call " + calls, 1, 0);
        }
    }

    /** What calls behind the 512th answer is free. */
    private void is(String call, long got, long want) {
        calls++;
        if (calls <= CALLS) {
            DUE.is(call, got, want);
        }
    }

    private int part() {
        return random.nextInt(60) == 0 ? odd() : random.nextInt(parts);
    }

    private int place() {
        return random.nextInt(60) == 0 ? odd() : random.nextInt(places);
    }

    private int odd() {
        return ODD[random.nextInt(ODD.length)];
    }

    private long value() {
        return switch (random.nextInt(6)) {
            case 0 -> random.nextLong();
            case 1 -> random.nextLong() >> random.nextInt(64);
            case 2 -> random.nextBoolean() ? Long.MAX_VALUE : Long.MIN_VALUE;
            default -> random.nextInt(3) - 1;
        };
    }

    private void step() {
        switch (random.nextInt(24)) {
            case 0, 1, 2, 3, 4 -> put();
            case 5, 6 -> take();
            case 7 -> get(part(), place());
            case 8, 9 -> needs();
            case 10 -> settings();
            case 11, 12 -> save();
            case 13 -> octet();
            case 14 -> cut();
            case 15 -> add(random.nextBoolean() ? random.nextInt(256) : random.nextInt(13));
            case 16 -> poke();
            case 17, 18 -> load();
            case 19 -> told();
            case 20 -> count();
            case 21 -> same();
            case 22 -> bringKept();
            default -> bringMade();
        }
    }

    private void put() {
        int p = part();
        int i = place();
        long v = value();
        is("put(" + p + ", " + i + ", " + v + ")", x.put(p, i, v), model.put(p, i, v));
    }

    private void take() {
        int p = part();
        int i = place();
        is("take(" + p + ", " + i + ")", x.take(p, i), model.take(p, i));
    }

    private void get(int p, int i) {
        Long want = model.get(p, i);
        if (want != null) {
            is("get(" + p + ", " + i + ")", x.get(p, i), want);
            return;
        }
        calls++;
        if (calls <= CALLS) {
            DUE.isThrown("get(" + p + ", " + i + ")", () -> x.get(p, i), NoSuchElementException.class);
        }
    }

    private void needs() {
        int p = part();
        int o = part();
        boolean does = random.nextInt(3) != 0;
        is("needs(" + p + ", " + o + ", " + does + ")", x.needs(p, o, does), model.needs(p, o, does));
    }

    private void settings() {
        int v = random.nextInt(8) == 0 ? odd() : 1 + random.nextInt(3);
        int m = random.nextInt(8) == 0 ? odd() : random.nextInt(2);
        boolean is = random.nextInt(6) == 0;
        is("version(" + v + ")", x.version(v), model.version(v));
        is("mode(" + m + ")", x.mode(m), model.mode(m));
        is("busy(" + is + ")", x.busy(is), model.busy(is));
    }

    private void save() {
        boolean whole = random.nextInt(3) == 0;
        is("save(" + whole + ")", x.save(whole), model.save(whole));
        if (model.atHand.length < 100) {
            kept.add(model.atHand.clone());
            for (int i = 0; i < model.atHand.length && random.nextInt(20) != 0; i++) {
                is("octet(" + i + ") of a file", x.octet(i), model.atHand[i]);
            }
        }
    }

    private void octet() {
        int i = random.nextInt(4) == 0 ? odd() : random.nextInt(model.atHand.length + 2);
        Byte want = model.octet(i);
        if (want != null) {
            is("octet(" + i + ")", x.octet(i), want);
            return;
        }
        calls++;
        if (calls <= CALLS) {
            DUE.isThrown("octet(" + i + ")", () -> x.octet(i), ArrayIndexOutOfBoundsException.class);
        }
    }

    private void cut() {
        int n = random.nextInt(6) == 0 ? odd() : model.atHand.length + 1 - random.nextInt(8);
        is("cut(" + n + ")", x.cut(n), model.cut(n));
    }

    private void add(int b) {
        is("add(" + b + ")", x.add((byte) b), model.add((byte) b));
    }

    private void poke() {
        int i = random.nextInt(12) == 0 ? odd() : random.nextInt(model.atHand.length + 1);
        int mask = random.nextInt(12) == 0 ? odd() : 1 << random.nextInt(8);
        is("poke(" + i + ", " + mask + ")", x.poke(i, mask), model.poke(i, mask));
    }

    private void load() {
        is("load()", x.load(), model.load());
        for (int what = 0; what < 6; what++) {
            is("count(" + what + ") behind load()", x.count(what), model.count(what));
        }
        for (int s = 0; s < Math.min(14, model.count(0)); s++) {
            for (int what = 0; what < 3; what++) {
                is("told(" + s + ", " + what + ") behind load()", x.told(s, what), model.told(s, what));
            }
        }
        for (int k = 0; k < 3; k++) {
            get(part(), place());
        }
    }

    private void told() {
        int i = random.nextInt(4) == 0 ? odd() : random.nextInt(13);
        int what = random.nextInt(4) == 0 ? odd() : random.nextInt(4);
        is("told(" + i + ", " + what + ")", x.told(i, what), model.told(i, what));
    }

    private void count() {
        int what = random.nextInt(4) == 0 ? odd() : random.nextInt(7);
        is("count(" + what + ")", x.count(what), model.count(what));
    }

    private void same() {
        int p = part();
        int o = part();
        is("same(" + p + ", " + o + ")", x.same(p, o) ? 1 : 0, model.same(p, o) ? 1 : 0);
    }

    private void bringKept() {
        if (!kept.isEmpty()) {
            bring(kept.get(random.nextInt(kept.size())));
        }
    }

    private void bring(byte[] row) {
        is("cut(0)", x.cut(0), model.cut(0));
        for (byte b : row) {
            add(b);
        }
        if (random.nextInt(3) == 0) {
            poke();
        }
        if (random.nextInt(4) == 0) {
            cut();
        }
        load();
    }

    /** A file with sections in any order, some of them with a fault. */
    private void bringMade() {
        int n = random.nextInt(5);
        int told = random.nextInt(8) == 0 ? random.nextInt(256) : n;
        HandFile file = random.nextBoolean() ? HandFile.whole(random.nextInt(3), told)
                : HandFile.changes(random.nextInt(3), model.baseSumOr0(), told);
        int first = random.nextInt(12);
        for (int s = 0; s < n; s++) {
            file.begin().bytes(random.nextInt(15) == 0 ? random.nextInt(256) : (first + s) % 12);
            if (random.nextInt(3) == 0) {
                file.bytes(1, random.nextInt(s + 1));
            } else {
                file.bytes(random.nextInt(20) == 0 ? 2 : 0);
                makeRows(file);
            }
            if (random.nextInt(5) == 0) {
                file.wrongEnd();
            } else {
                file.end();
            }
        }
        bring(file.toBytes());
    }

    private void makeRows(HandFile file) {
        int n = random.nextInt(4);
        file.count(random.nextInt(20) == 0 ? n + 1 : n);
        for (int e = 0; e < n; e++) {
            file.count(random.nextInt(10) == 0 ? random.nextInt(130) : random.nextInt(2));
            if (random.nextInt(20) == 0) {
                file.bytes(128, 0);
            } else {
                file.count(value());
            }
        }
    }
}
