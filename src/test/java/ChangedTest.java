/** The base and the parts that are changed, sentence by sentence; both are seen by promises 9, 14 and 16. */
public final class ChangedTest {
    private static final Due DUE = new Due();

    public static void main(String[] args) {
        noneAtFirst();
        savedWhole();
        loadedWithoutRefusal();
        loadedWithoutSections();
        loadedWithConflicts();
        loadedWithRefusal();
        latest();
        changesAreNoBase();
        toEndOfLastSection();
        byPut();
        byTake();
        byRefusedCalls();
        asItWas();
        putAsItWas();
        changedAtAll();
        byLoadingWithRefusal();
        byLoadingTheSame();
        byLoadingConflicts();
        byLoadingChanges();
        byLoadingSameChanges();
        byLoadingChangesOfOther();
        behindLoadOfBase();
        behindLoadOfBaseMode1();
        behindLoadOfBaseWithoutSection();
        behindLoadOfBaseAllAlike();
        DUE.end();
    }

    private static void isBase(String what, FormatFiles x, int sum) {
        DUE.is(what, HandFile.changes(1, sum, 0).load(x), 0);
    }

    private static void isNoBase(String what, FormatFiles x, int sum) {
        DUE.is(what, HandFile.changes(1, sum, 0).load(x), -13);
    }

    /** Parts 0 to 3 have the entry 5 at place 0, and are the base. */
    private static FormatFiles withBase() {
        FormatFiles x = new FormatFiles();
        for (int p = 0; p < 4; p++) {
            x.put(p, 0, 5);
        }
        x.save(true);
        return x;
    }

    private static int sumOfBase() {
        return HandFile.whole(1, 4).section(0, 0, 1, 0, 10).section(1, 1, 0).section(2, 1, 0).section(3, 1, 0).sum();
    }

    /** The changed parts are those that a file of changes has. */
    private static void isChanged(String what, FormatFiles x, int... parts) {
        DUE.is(what + ": count(4)", x.count(4), parts.length);
        x.save(false);
        x.load();
        DUE.is(what + ": sections", x.count(0), parts.length);
        for (int s = 0; s < parts.length; s++) {
            DUE.is(what + ": part of section " + s, x.told(s, 0), parts[s]);
        }
    }

    private static void noneAtFirst() {
        DUE.sentence("THE BASE is .. (none at first)");
        FormatFiles x = new FormatFiles();
        DUE.is("save of changes", x.save(false), -3);
        isNoBase("the sum 0", x, 0);
    }

    private static void savedWhole() {
        DUE.sentence("THE BASE is the whole file that was saved");
        isBase("saved", withBase(), sumOfBase());
        FormatFiles x = new FormatFiles();
        x.save(true);
        isBase("saved without sections", x, HandFile.whole(1, 0).sum());
    }

    private static void loadedWithoutRefusal() {
        DUE.sentence("THE BASE is the whole file that was .. loaded without a refusal");
        FormatFiles x = new FormatFiles();
        HandFile file = HandFile.whole(0, 2).section(2, 0, 1, 0, 2).section(1, 0, 0);
        DUE.is("load", file.load(x), 2);
        isBase("loaded", x, file.sum());
        DUE.is("save of changes", x.save(false), 9);
    }

    private static void loadedWithoutSections() {
        DUE.sentence("loaded without a refusal (no sections)");
        FormatFiles x = withBase();
        HandFile file = HandFile.whole(0, 0);
        DUE.is("load", file.load(x), 0);
        isChanged("parts that it has not", x, 0, 1, 2, 3);
        isBase("loaded", x, file.sum());
    }

    private static void loadedWithConflicts() {
        DUE.sentence("loaded without a refusal (a conflict is none)");
        FormatFiles x = withBase();
        HandFile file = HandFile.whole(1, 1).section(0, 0, 1, 0, 2);
        DUE.is("load", file.load(x), 1);
        DUE.is("conflicts", x.count(1), 1);
        isBase("loaded", x, file.sum());
    }

    private static void loadedWithRefusal() {
        DUE.sentence("loaded without a refusal (not with one of any kind)");
        HandFile[] files = {HandFile.whole(1, 2).section(0, 0, 1, 0, 10),
            HandFile.whole(1, 2).section(0, 0, 1, 0, 10).bytes(12),
            HandFile.whole(1, 2).section(0, 0, 1, 0, 10).begin().bytes(1, 0, 0).wrongEnd(),
            HandFile.whole(1, 2).begin().bytes(1, 0, 0).wrongEnd().section(0, 0, 1, 0, 10),
            HandFile.whole(1, 3).begin().bytes(1, 0, 0).wrongEnd().section(2, 1, 0).section(0, 0, 0)};
        for (HandFile file : files) {
            FormatFiles x = withBase();
            file.load(x);
            isBase("the one before", x, sumOfBase());
            isNoBase("the file with a refusal", x, file.sum());
        }
    }

    private static void latest() {
        DUE.sentence("THE BASE is the whole file that was saved, or loaded without a refusal, latest");
        FormatFiles x = withBase();
        HandFile file = HandFile.whole(1, 1).section(0, 0, 1, 0, 10);
        DUE.is("load", file.load(x), 1);
        isNoBase("the one that was saved before", x, sumOfBase());
        isBase("the one that was loaded", x, file.sum());
        x.save(true);
        isNoBase("the one that was loaded before", x, file.sum());
        isBase("the one that was saved", x, sumOfBase());
    }

    private static void changesAreNoBase() {
        DUE.sentence("THE BASE is the whole file (not one of changes that was loaded)");
        FormatFiles x = withBase();
        HandFile file = HandFile.changes(1, sumOfBase(), 1).section(0, 0, 0);
        DUE.is("load", file.load(x), 1);
        DUE.is("load again", x.load(), 1);
        isNoBase("the file of changes", x, file.sum());
        isBase("the one before", x, sumOfBase());
    }

    private static void toEndOfLastSection() {
        DUE.sentence("it is known by the sum of all its bytes, to the end of its last section");
        FormatFiles x = new FormatFiles();
        HandFile file = HandFile.whole(1, 1).section(2, 0, 1, 0, 2);
        int sum = file.sum();
        DUE.is("load with bytes behind it", file.bytes(7, 0).load(x), 1);
        isNoBase("with the bytes behind it", x, file.sum());
        isBase("without them", x, sum);
        HandFile none = HandFile.whole(1, 0);
        int sumOfNone = none.sum();
        DUE.is("load without sections, with a byte behind it", none.bytes(7).load(x), 0);
        isBase("without it", x, sumOfNone);
    }

    private static void byPut() {
        DUE.sentence("CHANGED is a part that has an entry put .. since there is this base");
        FormatFiles x = withBase();
        x.put(0, 0, 6);
        x.put(11, 99, 0);
        isChanged("another one, a new one", x, 0, 11);
        x.save(true);
        isChanged("since there is this base", x);
    }

    private static void byTake() {
        DUE.sentence("CHANGED is a part that has an entry .. taken away");
        FormatFiles x = withBase();
        x.take(3, 0);
        x.take(2, 1);
        x.take(9, 0);
        isChanged("not where there was none", x, 3);
    }

    private static void byRefusedCalls() {
        DUE.sentence("REFUSALS .. change nothing (no part is changed)");
        FormatFiles x = withBase();
        x.put(12, 0, 1);
        x.put(0, 100, 1);
        x.take(-1, 0);
        x.take(0, -1);
        x.busy(true);
        x.put(0, 0, 2);
        x.take(0, 0);
        x.busy(false);
        isChanged("refused calls", x);
    }

    private static void asItWas() {
        DUE.sentence("(also when it is then as it was");
        FormatFiles x = withBase();
        x.put(0, 0, 6);
        x.put(0, 0, 5);
        x.take(1, 0);
        x.put(1, 0, 5);
        x.put(4, 0, 5);
        x.take(4, 0);
        isChanged("as it was", x, 0, 1, 4);
    }

    private static void putAsItWas() {
        DUE.sentence("what is put as it was there does not count)");
        FormatFiles x = withBase();
        x.put(0, 0, 5);
        isChanged("put as it was there", x);
        x.put(0, 1, 0);
        x.save(true);
        x.put(0, 1, 0);
        isChanged("0 put as it was there", x);
    }

    private static void changedAtAll() {
        DUE.sentence("16: parts that are changed (4; with no base those that were changed at all)");
        FormatFiles x = new FormatFiles();
        x.put(0, 0, 1);
        x.put(11, 0, 1);
        x.take(11, 0);
        x.take(5, 0);
        DUE.is("with no base", x.count(4), 2);
        HandFile.whole(1, 3).section(3, 0, 1, 0, 0).section(4, 0, 0).begin().bytes(5, 0, 1, 0, 0).wrongEnd().load(x);
        DUE.is("and come by loading", x.count(4), 3);
        x.save(true);
        DUE.is("with a base", x.count(4), 0);
    }

    private static void byLoadingWithRefusal() {
        DUE.sentence("CHANGED is a part that has an entry .. come by loading since there is this base");
        FormatFiles x = withBase();
        HandFile.whole(1, 3).section(7, 0, 1, 0, 10).section(8, 1, 0).begin().bytes(9, 0, 1, 0, 0).wrongEnd().load(x);
        isChanged("where there was none, not what was refused", x, 7, 8);
    }

    private static void byLoadingTheSame() {
        DUE.sentence("what is put as it was there does not count (by loading)");
        FormatFiles x = withBase();
        HandFile.whole(1, 3).section(0, 0, 1, 0, 10).section(4, 0, 0).begin().bytes(9, 0, 1, 0, 0).wrongEnd().load(x);
        isChanged("the same, and none", x);
    }

    private static void byLoadingConflicts() {
        DUE.sentence("come by loading (a conflict, in mode 1 alone)");
        HandFile file = HandFile.whole(1, 2).section(1, 0, 1, 0, 12).begin().bytes(9, 0, 1, 0, 0).wrongEnd();
        FormatFiles x = withBase();
        file.load(x);
        isChanged("mode 0", x);
        FormatFiles y = withBase();
        y.mode(1);
        file.load(y);
        isChanged("mode 1", y, 1);
    }

    private static void byLoadingChanges() {
        DUE.sentence("come by loading (of changes)");
        FormatFiles x = withBase();
        HandFile file = HandFile.changes(1, sumOfBase(), 5).section(0, 0, 1, 0, 12).section(1, 0, 0)
                .section(2, 0, 2, 0, 10, 0, 10).section(8, 1, 2).begin().bytes(3, 0, 0).wrongEnd();
        DUE.is("load", file.load(x), 4);
        isChanged("another one, taken away, a new one, a new part, not what was refused", x, 0, 1, 2, 8);
    }

    private static void byLoadingSameChanges() {
        DUE.sentence("what is put as it was there does not count (by loading of changes)");
        FormatFiles x = withBase();
        HandFile file = HandFile.changes(1, sumOfBase(), 2).section(0, 0, 1, 0, 10).section(7, 0, 0);
        DUE.is("load", file.load(x), 2);
        isChanged("the same, and none", x);
    }

    private static void byLoadingChangesOfOther() {
        DUE.sentence("CHANGED is a part that has an entry put .. since there is this base (changes that are loaded are none)");
        FormatFiles x = withBase();
        x.put(3, 3, 3);
        DUE.is("load", HandFile.changes(1, sumOfBase(), 1).section(0, 0, 0).load(x), 1);
        isChanged("what was changed before, too", x, 0, 3);
    }

    private static void behindLoadOfBase() {
        DUE.sentence("Behind the loading of a base CHANGED are just the parts whose entries are not those that the file has");
        FormatFiles x = withBase();
        x.put(2, 1, 6);
        x.put(3, 0, 6);
        x.put(3, 0, 5);
        HandFile file = HandFile.whole(1, 6).section(0, 0, 1, 0, 10).section(1, 0, 1, 0, 12).section(2, 1, 0)
                .section(3, 1, 0).section(5, 0, 0).section(11, 1, 1);
        DUE.is("load", file.load(x), 6);
        isChanged("a conflict and one entry more, not what is as in the file", x, 1, 2);
    }

    private static void behindLoadOfBaseMode1() {
        DUE.sentence("just the parts whose entries are not those that the file has (mode 1)");
        FormatFiles x = withBase();
        x.mode(1);
        x.put(2, 1, 6);
        HandFile file = HandFile.whole(1, 4).section(0, 0, 1, 0, 12).section(1, 1, 0).section(2, 1, 0).section(3, 1, 0);
        DUE.is("load", file.load(x), 4);
        isChanged("one entry more, not a conflict", x, 2);
    }

    private static void behindLoadOfBaseWithoutSection() {
        DUE.sentence("(none, if it has no section of them)");
        FormatFiles x = withBase();
        x.put(6, 0, 5);
        x.take(6, 0);
        x.put(11, 0, 5);
        HandFile file = HandFile.whole(1, 3).section(1, 0, 1, 0, 10).section(2, 1, 0).section(3, 1, 0);
        DUE.is("load", file.load(x), 3);
        isChanged("parts with entries that it has not, not those without", x, 0, 11);
    }

    private static void behindLoadOfBaseAllAlike() {
        DUE.sentence("just the parts whose entries are not those that the file has for them (no part)");
        FormatFiles x = withBase();
        x.put(0, 0, 6);
        x.put(0, 0, 5);
        x.save(true);
        x.put(1, 0, 6);
        x.put(1, 0, 5);
        DUE.is("changed before", x.count(4), 1);
        DUE.is("load", x.load(), 4);
        isChanged("all as in the file", x);
    }
}
