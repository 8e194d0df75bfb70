import java.util.NoSuchElementException;
import java.util.function.ToLongFunction;

/** 'REFUSALS answer .. and change nothing', for each call that can be refused: all that can be seen stays. */
public final class RefusalsTest {
    private static final Due DUE = new Due();

    public static void main(String[] args) {
        DUE.sentence("REFUSALS answer, the first that fits, and change nothing");
        changesNothing("put in no part", -1, x -> x.put(12, 0, 1));
        changesNothing("put at no place", -2, x -> x.put(0, 100, 1));
        changesNothing("put at no place below", -2, x -> x.put(1, -1, 1));
        changesNothing("take of no part", -1, x -> x.take(12, 0));
        changesNothing("take at no place", -2, x -> x.take(0, 100));
        changesNothing("needs of no part", -1, x -> x.needs(12, 0, true));
        changesNothing("needs of no other", -1, x -> x.needs(0, -1, false));
        changesNothing("needs itself", -3, x -> x.needs(1, 1, true));
        changesNothing("needs itself over others", -3, x -> x.needs(0, 2, true));
        changesNothing("version below", -2, x -> x.version(0));
        changesNothing("version above", -2, x -> x.version(201));
        changesNothing("mode below", -2, x -> x.mode(-1));
        changesNothing("mode above", -2, x -> x.mode(2));
        changesNothing("cut below", -2, x -> x.cut(-1));
        changesNothing("cut above", -2, x -> x.cut(x.count(2) + 1));
        changesNothing("poke no byte", -1, x -> x.poke(x.count(2), 1));
        changesNothing("poke with no mask", -2, x -> x.poke(0, 256));
        changesNothing("count of others", -2, x -> x.count(6));
        changesNothing("told of none", -1, x -> x.told(3, 0));
        changesNothing("busy: put", -3, x -> whileBusy(x, y -> y.put(0, 0, 77)));
        changesNothing("busy: take", -3, x -> whileBusy(x, y -> y.take(0, 0)));
        changesNothing("busy: load", -3, x -> whileBusy(x, FormatFiles::load));
        changesNothing("get of none", -99, RefusalsTest::getOfNone);
        changesNothing("octet of none", -99, RefusalsTest::octetOfNone);
        savesWithoutBase();
        DUE.end();
    }

    /** Two parts of three changed since the base, a loading with a refusal, and another file at hand. */
    private static FormatFiles make() {
        FormatFiles x = new FormatFiles();
        x.version(3);
        x.mode(1);
        x.needs(2, 1, true);
        x.needs(1, 0, true);
        x.put(0, 0, 10);
        x.put(1, 1, 11);
        x.put(2, 99, 12);
        x.save(true);
        x.put(1, 0, 13);
        HandFile.whole(1, 2).section(2, 0, 1, 99, 2).begin().bytes(1, 0, 0).wrongEnd().load(x);
        HandFile.whole(2, 1).section(2, 0, 1, 0, 2).into(x);
        return x;
    }

    private static void changesNothing(String what, long refusal, ToLongFunction<FormatFiles> call) {
        FormatFiles x = make();
        DUE.is(what, call.applyAsLong(x), refusal);
        DUE.is(what + ": all that can be seen", seen(x), seen(make()));
    }

    private static long whileBusy(FormatFiles x, ToLongFunction<FormatFiles> call) {
        x.busy(true);
        long answer = call.applyAsLong(x);
        x.busy(false);
        return answer;
    }

    private static long getOfNone(FormatFiles x) {
        try {
            return x.get(0, 100);
        } catch (NoSuchElementException e) {
            return -99;
        }
    }

    private static long octetOfNone(FormatFiles x) {
        try {
            return x.octet(x.count(2));
        } catch (ArrayIndexOutOfBoundsException e) {
            return -99;
        }
    }

    private static void savesWithoutBase() {
        FormatFiles x = new FormatFiles();
        x.put(0, 0, 10);
        x.add((byte) 70);
        DUE.is("changes without a base", x.save(false), -3);
        DUE.is("the byte at hand", x.octet(0), 70);
        DUE.is("bytes at hand", x.count(2), 1);
        DUE.is("changed parts", x.count(4), 1);
        DUE.is("there is still no base", x.save(false), -3);
    }

    /** What can be seen without a change first, then by calls that change; the object is of no use behind it. */
    private static String seen(FormatFiles x) {
        StringBuilder text = new StringBuilder();
        for (int what = 0; what < 6; what++) {
            text.append(x.count(what)).append(' ');
        }
        for (int s = 0; s < 3; s++) {
            for (int what = 0; what < 3; what++) {
                text.append(x.told(s, what)).append(' ');
            }
        }
        appendBytes(text, x);
        text.append(x.busy(false)).append(' ').append(x.version(3)).append(' ').append(x.mode(1)).append(' ');
        x.save(false);
        appendBytes(text, x);
        x.save(true);
        appendBytes(text, x);
        for (int p = 0; p < 3; p++) {
            for (int other = 0; other < 3; other++) {
                text.append(x.needs(p, other, false)).append(' ');
            }
        }
        return text.toString();
    }

    private static void appendBytes(StringBuilder text, FormatFiles x) {
        for (byte b : HandFile.atHand(x)) {
            text.append(b).append(' ');
        }
        text.append("; ");
    }
}
