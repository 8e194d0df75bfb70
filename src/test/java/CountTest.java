/** Promise 16, and with it which parts are changed. */
public final class CountTest {
    private static final Due DUE = new Due();

    public static void main(String[] args) {
        counts();
        changedByCalls();
        changedWithoutBase();
        changedByWholeFile();
        changedBehindBase();
        changedByRefusedFile();
        changedByChanges();
        DUE.end();
    }

    private static void counts() {
        FormatFiles x = new FormatFiles();
        x.put(0, 0, 1);
        x.put(0, 1, 1);
        x.put(11, 0, 2);
        x.put(5, 5, 5);
        x.take(5, 5);
        DUE.is("parts with entries", x.count(3), 2);
        DUE.is("parts that were changed at all", x.count(4), 3);
        DUE.is("entries", x.count(5), 3);
        HandFile.whole(1, 3).section(0, 0, 2, 0, 4, 0, 4).section(11, 1, 0).section(1, 0, 0).bytes(9).into(x);
        DUE.is("bytes at hand", x.count(2), 31);
        x.load();
        DUE.is("sections that are told", x.count(0), 3);
        DUE.is("conflicts in them", x.count(1), 2);
        DUE.is("entries then", x.count(5), 4);
        for (int what : new int[] {-1, 6, Integer.MIN_VALUE, Integer.MAX_VALUE}) {
            DUE.is("count(" + what + ")", x.count(what), -2);
        }
    }

    private static void changedByCalls() {
        FormatFiles x = new FormatFiles();
        x.put(0, 0, 1);
        x.put(1, 0, 1);
        x.save(true);
        DUE.is("none is changed behind a base", x.count(4), 0);
        x.put(0, 0, 1);
        DUE.is("put as it was there", x.count(4), 0);
        x.take(0, 1);
        DUE.is("took none", x.count(4), 0);
        x.put(12, 0, 1);
        x.put(0, 100, 1);
        x.busy(true);
        x.put(0, 0, 2);
        x.take(0, 0);
        x.busy(false);
        DUE.is("refused calls", x.count(4), 0);
        x.put(0, 0, 2);
        DUE.is("put another", x.count(4), 1);
        x.put(0, 0, 1);
        DUE.is("as it was", x.count(4), 1);
        x.take(1, 0);
        DUE.is("took one", x.count(4), 2);
        x.put(2, 0, 0);
        DUE.is("put where there was none", x.count(4), 3);
        x.save(false);
        DUE.is("changed parts stay so", x.count(4), 3);
        x.save(true);
        DUE.is("till the next base", x.count(4), 0);
    }

    private static void changedWithoutBase() {
        FormatFiles x = new FormatFiles();
        HandFile.whole(1, 3).section(3, 0, 1, 0, 0).section(4, 0, 0).begin().bytes(5, 0, 1, 0, 0).wrongEnd().into(x);
        DUE.is("load with a refusal", x.load(), 2);
        DUE.is("come by loading, without a base", x.count(4), 1);
        DUE.is("there is none", x.save(false), -3);
    }

    private static void changedByWholeFile() {
        FormatFiles x = new FormatFiles();
        x.put(0, 0, 5);
        x.put(1, 0, 5);
        x.put(2, 0, 5);
        x.put(2, 1, 6);
        x.put(3, 0, 5);
        x.put(6, 0, 5);
        x.take(6, 0);
        HandFile.whole(1, 5).section(0, 0, 1, 0, 10).section(1, 0, 1, 0, 12).section(2, 1, 0).section(4, 1, 0)
                .section(5, 0, 0).into(x);
        DUE.is("load in mode 0", x.load(), 5);
        DUE.is("a conflict, one entry more, a part that it has not", x.count(4), 3);
        x.mode(1);
        DUE.is("load in mode 1", x.load(), 5);
        DUE.is("one entry more, a part that it has not", x.count(4), 2);
        x.take(2, 1);
        x.take(3, 0);
        DUE.is("load once more", x.load(), 5);
        DUE.is("all as in the file", x.count(4), 0);
    }

    /** Which parts are changed is seen in a file of changes. */
    private static void changedBehindBase() {
        FormatFiles x = new FormatFiles();
        x.put(0, 0, 1);
        x.put(5, 0, 1);
        x.put(11, 0, 1);
        HandFile.whole(1, 1).section(5, 0, 1, 0, 2).into(x);
        DUE.is("load", x.load(), 1);
        DUE.is("save of changes", x.save(false), 9 + 9 + 7);
        DUE.is("the first part", x.octet(9), 0);
        DUE.is("the second part", x.octet(18), 11);
    }

    private static void changedByRefusedFile() {
        FormatFiles x = new FormatFiles();
        for (int p = 0; p < 3; p++) {
            x.put(p, 0, 5);
        }
        x.save(true);
        HandFile.whole(1, 5).section(0, 0, 1, 0, 10).section(1, 0, 1, 0, 12).section(3, 1, 0).section(4, 0, 0)
                .begin().bytes(2, 0, 1, 0, 0).wrongEnd().into(x);
        DUE.is("load with a refusal, mode 0", x.load(), 4);
        DUE.is("only what was put is changed", x.count(4), 1);
        x.mode(1);
        DUE.is("load with a refusal, mode 1", x.load(), 4);
        DUE.is("and what became that of the file", x.count(4), 2);
    }

    private static void changedByChanges() {
        FormatFiles x = new FormatFiles();
        for (int p = 0; p < 4; p++) {
            x.put(p, 0, 5);
        }
        x.save(true);
        int sum = HandFile.sum(HandFile.atHand(x), 0, x.count(2));
        HandFile.changes(1, sum, 2).section(0, 0, 1, 0, 10).section(7, 0, 0).into(x);
        DUE.is("changes to the same", x.load(), 2);
        DUE.is("none is changed", x.count(4), 0);
        HandFile.changes(1, sum, 4).section(0, 0, 1, 0, 12).section(1, 0, 0).section(2, 0, 2, 0, 10, 0, 10)
                .section(8, 1, 2).into(x);
        DUE.is("changes to others", x.load(), 4);
        DUE.is("all of them are changed", x.count(4), 4);
    }
}
