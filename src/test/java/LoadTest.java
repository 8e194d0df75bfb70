import java.util.NoSuchElementException;

/** Promises 14 and 15: loading, and what is told of it. */
public final class LoadTest {
    private static final Due DUE = new Due();

    public static void main(String[] args) {
        nothingAtHand();
        busy();
        refusedAsWhole();
        refusalsInOrder();
        refusedBase();
        wholeFile();
        conflicts();
        changesFile();
        bytesEnd();
        countsEnd();
        impossibleBytes();
        impossibleCounts();
        greatestCounts();
        impossibleSources();
        wrongSums();
        needsRefused();
        needsOverOthers();
        loadedAtOnce();
        manySections();
        loadBehindLoad();
        firstPartRefused();
        base();
        told();
        DUE.end();
    }

    private static void isTold(String what, FormatFiles x, int section, int part, int reason) {
        DUE.is(what + ": part of section " + section, x.told(section, 0), part);
        DUE.is(what + ": reason of section " + section, x.told(section, 1), reason);
    }

    private static void isNone(String what, FormatFiles x, int part, int i) {
        DUE.isThrown(what, () -> x.get(part, i), NoSuchElementException.class);
    }

    private static void nothingAtHand() {
        FormatFiles x = new FormatFiles();
        DUE.is("nothing at hand", x.load(), 0);
        HandFile.whole(1, 1).section(0, 0, 0).into(x);
        DUE.is("a file at hand", x.load(), 1);
        x.cut(0);
        DUE.is("nothing at hand again", x.load(), 0);
        DUE.is("none is told", x.count(0), 0);
        DUE.is("none is told of section 0", x.told(0, 0), -1);
    }

    private static void busy() {
        FormatFiles x = new FormatFiles();
        x.busy(true);
        DUE.is("busy, nothing at hand", x.load(), -3);
        HandFile.whole(1, 1).section(4, 0, 1, 0, 2).into(x);
        DUE.is("busy, a file at hand", x.load(), -3);
        DUE.is("busy: nothing has come", x.count(5), 0);
        x.busy(false);
        DUE.is("no more busy", x.load(), 1);
        x.busy(true);
        x.cut(1);
        DUE.is("busy again", x.load(), -3);
        isTold("busy: of the load before", x, 0, 4, 0);
    }

    private static void refusedAsWhole() {
        FormatFiles x = new FormatFiles();
        int[][] rows = {{70}, {70, 77}, {70, 77, 0}, {70, 77, 0, 1}, {71, 77, 0, 1, 0}, {70, 76, 0, 1, 0},
                {77, 70, 0, 1, 0}, {70, 77, 2, 1, 0}, {70, 77, 255, 1, 0}, {70, 77, 1, 1, 0, 0, 0, 0},
                {0}, {70, 77, 2, 1, 0, 0, 0, 0, 0}, {70 + 128, 77, 0, 1, 0}};
        for (int[] row : rows) {
            HandFile.whole(1, 1).section(0, 0, 0).into(x);
            x.load();
            new HandFile().bytes(row).into(x);
            DUE.is("no file, " + row.length + " bytes", x.load(), -11);
            DUE.is("no file: none is told", x.count(0), 0);
            DUE.is("no file: none is told of section 0", x.told(0, 1), -1);
            DUE.is("no file: bytes stay", x.count(2), row.length);
        }
        x.version(199);
        HandFile.whole(199, 0).into(x);
        DUE.is("of this version", x.load(), 0);
        HandFile.whole(0, 0).into(x);
        DUE.is("of version 0", x.load(), 0);
        for (int v : new int[] {200, 201, 255}) {
            HandFile.whole(v, 1).section(0, 0, 1, 0, 0).into(x);
            DUE.is("of version " + v, x.load(), -12);
            DUE.is("too new: none is told", x.count(0), 0);
        }
        DUE.is("nothing has come", x.count(5), 0);
        x.version(200);
        DUE.is("of version 255 for 200", x.load(), -12);
    }

    private static void refusalsInOrder() {
        FormatFiles x = new FormatFiles();
        new HandFile().bytes(70, 77, 0, 2).into(x);
        DUE.is("too short and too new", x.load(), -11);
        new HandFile().bytes(70, 77, 1, 2, 0, 0, 0, 0).into(x);
        DUE.is("changes, too short and too new", x.load(), -11);
        HandFile.changes(2, 0, 0).into(x);
        DUE.is("too new and without a base", x.load(), -12);
        HandFile.changes(1, 0, 0).into(x);
        DUE.is("without a base", x.load(), -13);
    }

    private static void refusedBase() {
        FormatFiles x = new FormatFiles();
        x.save(true);
        int sum = HandFile.sum(HandFile.atHand(x), 0, 5);
        for (int bit = 0; bit < 32; bit++) {
            HandFile.changes(1, sum ^ 1 << bit, 1).section(0, 0, 1, 0, 0).into(x);
            DUE.is("another base", x.load(), -13);
        }
        DUE.is("another base: none is told", x.count(0), 0);
        DUE.is("nothing has come", x.count(5), 0);
        HandFile.changes(1, sum, 1).section(0, 0, 1, 0, 0).into(x);
        DUE.is("this base", x.load(), 1);
        DUE.is("it has come", x.count(5), 1);
    }

    private static void wholeFile() {
        FormatFiles x = new FormatFiles();
        x.put(2, 50, 1);
        HandFile.whole(1, 3).section(2, 0, 2, 0, 1, 98, 4).section(11, 1, 0).section(0, 0, 0).bytes(1, 2).into(x);
        DUE.is("three sections", x.load(), 3);
        DUE.is("the first entry", x.get(2, 0), -1);
        DUE.is("the last entry", x.get(2, 99), 2);
        DUE.is("what was there stays", x.get(2, 50), 1);
        DUE.is("the rows of another", x.get(11, 99), 2);
        DUE.is("all entries", x.count(5), 5);
        DUE.is("bytes at hand stay", x.count(2), 5 + 11 + 7 + 7 + 2);
        isTold("whole", x, 0, 2, 0);
        isTold("whole", x, 1, 11, 0);
        isTold("whole", x, 2, 0, 0);
        DUE.is("no more sections", x.told(3, 0), -1);
        HandFile.whole(1, 0).bytes(1, 0, 1).into(x);
        DUE.is("no sections", x.load(), 0);
        DUE.is("no sections are told", x.count(0), 0);
    }

    private static void conflicts() {
        FormatFiles x = new FormatFiles();
        x.put(1, 0, 10);
        x.put(1, 1, 11);
        x.put(1, 2, 12);
        x.put(2, 1, 11);
        HandFile.whole(1, 2).section(1, 0, 4, 0, 20, 0, 20, 0, 20, 0, 20).section(2, 1, 0).into(x);
        DUE.is("mode 0", x.load(), 2);
        DUE.is("conflicts of section 0", x.told(0, 2), 2);
        DUE.is("conflicts of section 1", x.told(1, 2), 1);
        DUE.is("all conflicts", x.count(1), 3);
        DUE.is("the same stays", x.get(1, 0), 10);
        DUE.is("a conflict stays", x.get(1, 1), 11);
        DUE.is("what was not there is put", x.get(1, 3), 10);
        x.mode(1);
        DUE.is("mode 1", x.load(), 2);
        DUE.is("they are conflicts, too", x.told(0, 2), 2);
        DUE.is("all conflicts in mode 1", x.count(1), 3);
        DUE.is("it becomes that of the file", x.get(1, 1), 10);
        DUE.is("so does that of another part", x.get(2, 1), 10);
        DUE.is("then once more", x.load(), 2);
        DUE.is("no conflicts are left", x.count(1), 0);
    }

    private static void changesFile() {
        FormatFiles x = new FormatFiles();
        x.put(1, 1, 1);
        x.put(1, 2, 2);
        x.put(3, 3, 3);
        x.put(4, 4, 4);
        x.save(true);
        int sum = HandFile.sum(HandFile.atHand(x), 0, x.count(2));
        HandFile.changes(1, sum, 3).section(1, 0, 2, 2, 6, 5, 1).section(3, 0, 0).section(6, 1, 0).into(x);
        DUE.is("changes", x.load(), 3);
        isNone("what the file has not is gone", x, 1, 1);
        DUE.is("another entry of the file", x.get(1, 2), 3);
        DUE.is("a new entry of the file", x.get(1, 8), -1);
        isNone("a part without rows", x, 3, 3);
        DUE.is("rows of another section", x.same(1, 6), true);
        DUE.is("a part that the file has not", x.get(4, 4), 4);
        DUE.is("no conflicts", x.count(1), 0);
        DUE.is("changed parts", x.count(4), 3);
        DUE.is("changes again, the base being the same", x.load(), 3);
    }

    /** Every place where bytes may end. */
    private static void bytesEnd() {
        HandFile file = HandFile.whole(1, 3).section(5, 0, 2, 0, 128, 1, 0, 3).section(6, 1, 0).section(7, 0, 0);
        byte[] row = file.toBytes();
        int[] ends = {5 + 12, 5 + 12 + 7, 5 + 12 + 7 + 7};
        int[] parts = {5, 6, 7};
        for (int n = row.length - 1; n >= 5; n--) {
            FormatFiles x = new FormatFiles();
            file.into(x);
            x.cut(n);
            int whole = 0;
            while (n >= ends[whole]) {
                whole++;
            }
            DUE.is("cut to " + n, x.load(), whole);
            DUE.is("cut to " + n + ": sections told", x.count(0), 3);
            int start = whole == 0 ? 5 : ends[whole - 1];
            for (int s = 0; s < 3; s++) {
                boolean isKnown = s < whole || s == whole && n > start;
                isTold("cut to " + n, x, s, isKnown ? parts[s] : -1, s < whole ? 0 : 4);
            }
            DUE.is("cut to " + n + ": no base", x.save(false), -3);
        }
    }

    private static void countsEnd() {
        int[][] rows = {{3, 0, 128}, {3, 0, 1, 128}, {3, 0, 1, 0, 255, 255, 255, 255, 255, 255, 255, 255, 255},
                {3, 0, 1, 0, 255, 255, 255, 255, 255, 255, 255, 255, 255, 1}, {3, 0, 100}, {3, 0, 0, 1, 2, 3}};
        for (int[] row : rows) {
            FormatFiles x = new FormatFiles();
            HandFile.whole(1, 1).bytes(row).into(x);
            DUE.is("bytes end behind " + row.length, x.load(), 0);
            isTold("bytes end behind " + row.length, x, 0, 3, 4);
        }
    }

    private static void impossibleBytes() {
        FormatFiles x = new FormatFiles();
        for (int part : new int[] {12, 127, 128, 255}) {
            HandFile.whole(1, 2).section(part, 0, 0).section(1, 0, 0).into(x);
            DUE.is("part " + part, x.load(), 0);
            isTold("part " + part, x, 0, -1, 5);
            isTold("behind part " + part, x, 1, -1, 4);
        }
        HandFile.whole(1, 3).section(3, 0, 0).section(3, 0, 0).section(4, 0, 0).into(x);
        DUE.is("a part again", x.load(), 1);
        isTold("a part again", x, 0, 3, 0);
        isTold("a part again", x, 1, -1, 5);
        isTold("a part again", x, 2, -1, 4);
        HandFile.whole(1, 3).begin().bytes(3, 0, 0).wrongEnd().section(3, 0, 0).section(4, 0, 0).into(x);
        DUE.is("a refused part again", x.load(), 0);
        isTold("a refused part again", x, 0, 3, 6);
        isTold("a refused part again", x, 1, -1, 5);
        for (int kind : new int[] {2, 128, 255}) {
            HandFile.whole(1, 2).section(3, kind, 0).section(4, 0, 0).into(x);
            DUE.is("the byte " + kind, x.load(), 0);
            isTold("the byte " + kind, x, 0, 3, 5);
            isTold("behind the byte " + kind, x, 1, -1, 4);
        }
        HandFile.whole(1, 1).bytes(9, 2).into(x);
        DUE.is("it can't be, and bytes end behind it", x.load(), 0);
        isTold("it can't be, and bytes end behind it", x, 0, 9, 5);
        DUE.is("nothing has come", x.count(5), 0);
    }

    private static void impossibleCounts() {
        int[][] rows = {{128, 0}, {128, 128, 0}, {129, 0}, {101}, {228, 1}, {128, 1},
                {255, 255, 255, 255, 255, 255, 255, 255, 255, 1}, {128, 128, 128, 128, 128, 128, 128, 128, 128, 2},
                {128, 128, 128, 128, 128, 128, 128, 128, 128, 128}, {128, 128, 128, 128, 128, 128, 128, 128, 128, 0},
                {1, 100}, {1, 128, 0}, {1, 128, 1}, {1, 255, 255, 255, 255, 255, 255, 255, 255, 255, 1},
                {1, 128, 128, 128, 128, 16}, {2, 99, 0, 0}, {2, 98, 0, 1}, {2, 0, 0, 99}, {2, 50, 0, 49},
                {1, 0, 128, 0}, {1, 0, 255, 128, 0}, {1, 0, 128, 128, 128, 128, 128, 128, 128, 128, 128, 2},
                {1, 0, 128, 128, 128, 128, 128, 128, 128, 128, 128, 129},
                {1, 0, 128, 128, 128, 128, 128, 128, 128, 128, 128, 0},
                {2, 0, 0, 255, 255, 255, 255, 255, 255, 255, 255, 255, 1}};
        for (int[] row : rows) {
            FormatFiles x = new FormatFiles();
            HandFile.whole(1, 1).bytes(2, 0).bytes(row).into(x);
            String what = "rows " + java.util.Arrays.toString(row);
            DUE.is(what, x.load(), 0);
            isTold(what, x, 0, 2, 5);
            DUE.is(what + ": nothing has come", x.count(5), 0);
            x.cut(x.count(2) - 1);
            DUE.is(what + " without the last byte", x.load(), 0);
            isTold(what + " without the last byte", x, 0, 2, 4);
        }
    }

    private static void greatestCounts() {
        FormatFiles x = new FormatFiles();
        HandFile file = HandFile.whole(1, 2).begin().bytes(0, 0, 100);
        for (int i = 0; i < 100; i++) {
            file.bytes(0).count(i % 2 == 0 ? -1 - i : i);
        }
        file.end().section(1, 0, 1, 99, 128, 128, 128, 128, 128, 128, 128, 128, 128, 1).into(x);
        DUE.is("a full part", x.load(), 2);
        DUE.is("its entries", x.count(5), 101);
        DUE.is("the first of them", x.get(0, 0), Long.MIN_VALUE);
        DUE.is("the second of them", x.get(0, 1), -1);
        DUE.is("the third of them", x.get(0, 2), Long.MIN_VALUE + 1);
        DUE.is("the last of them", x.get(0, 99), -50);
        DUE.is("the greatest place, a long of ten bytes", x.get(1, 99), 1L << 62);
    }

    private static void impossibleSources() {
        FormatFiles x = new FormatFiles();
        for (int source : new int[] {1, 2, 3, 4, 12, 255}) {
            HandFile.whole(1, 4).section(0, 0, 0).section(1, 1, 0).section(2, 1, source).section(3, 0, 0).into(x);
            DUE.is("rows of section " + source, x.load(), 2);
            isTold("rows of section " + source, x, 2, 2, 5);
            isTold("rows of section " + source, x, 3, -1, 4);
        }
        HandFile.whole(1, 1).section(0, 1, 0).into(x);
        DUE.is("rows of itself", x.load(), 0);
        isTold("rows of itself", x, 0, 0, 5);
        HandFile.whole(1, 2).section(4, 0, 1, 4, 8).bytes(5, 1).into(x);
        DUE.is("bytes end before the section's number", x.load(), 1);
        isTold("bytes end before the section's number", x, 1, 5, 4);
        HandFile.whole(1, 2).section(4, 0, 1, 4, 8).bytes(5, 1, 1).into(x);
        DUE.is("its number can't be, and bytes end", x.load(), 1);
        isTold("its number can't be, and bytes end", x, 1, 5, 5);
    }

    private static void wrongSums() {
        FormatFiles x = new FormatFiles();
        HandFile.whole(1, 5).section(1, 0, 1, 1, 2).begin().bytes(2, 0, 1, 1, 2).wrongEnd()
                .section(3, 1, 0).section(4, 1, 1).begin().bytes(5, 1, 1).wrongEnd().into(x);
        DUE.is("a wrong sum", x.load(), 2);
        isTold("right", x, 0, 1, 0);
        isTold("wrong", x, 1, 2, 6);
        isTold("rows of a right one", x, 2, 3, 0);
        isTold("rows of a wrong one", x, 3, 4, 7);
        isTold("rows of a wrong one, with a wrong sum", x, 4, 5, 6);
        DUE.is("what has come", x.count(5), 2);
        isNone("nothing of what was refused", x, 2, 1);
        for (int bit = 0; bit < 32; bit++) {
            FormatFiles y = new FormatFiles();
            HandFile.whole(1, 1).section(1, 0, 1, 1, 2).into(y);
            y.poke(10 + bit / 8, 1 << bit % 8);
            DUE.is("a bit of the sum", y.load(), 0);
            isTold("a bit of the sum", y, 0, 1, 6);
        }
    }

    private static void needsRefused() {
        FormatFiles x = new FormatFiles();
        x.needs(2, 1, true);
        x.needs(3, 2, true);
        x.needs(4, 9, true);
        x.needs(5, 1, true);
        HandFile.whole(1, 8).begin().bytes(1, 0, 1, 1, 2).wrongEnd().section(2, 0, 1, 1, 4).section(3, 0, 1, 1, 6)
                .section(4, 0, 1, 1, 8).section(5, 1, 0).section(6, 1, 1).begin().bytes(7, 1, 0).wrongEnd()
                .section(8, 1, 3).into(x);
        DUE.is("a part that is needed is refused", x.load(), 2);
        int[] reasons = {6, 8, 8, 0, 7, 7, 6, 0};
        for (int s = 0; s < 8; s++) {
            isTold("needs", x, s, s + 1, reasons[s]);
        }
        DUE.is("what has come", x.count(3), 2);
        HandFile.whole(1, 2).section(2, 0, 1, 1, 4).begin().bytes(1, 0, 1, 1, 2).wrongEnd().into(x);
        DUE.is("refused behind it", x.load(), 1);
        isTold("refused behind it", x, 0, 2, 0);
        isTold("refused behind it", x, 1, 1, 6);
        HandFile.whole(1, 1).section(3, 0, 1, 1, 4).into(x);
        DUE.is("needed, and not in the file", x.load(), 1);
    }

    private static void needsOverOthers() {
        FormatFiles x = new FormatFiles();
        x.needs(3, 2, true);
        x.needs(2, 1, true);
        HandFile.whole(1, 2).begin().bytes(1, 0, 0).wrongEnd().section(3, 0, 1, 0, 0).into(x);
        DUE.is("needed over a part that the file has not", x.load(), 1);
        isTold("needed over a part that the file has not", x, 1, 3, 0);
    }

    private static void loadedAtOnce() {
        FormatFiles x = new FormatFiles();
        x.put(1, 0, 0);
        HandFile.whole(1, 3).section(0, 0, 1, 0, 2).section(1, 0, 2, 0, 2, 0, 2).bytes(12).into(x);
        DUE.is("sections before one that can't be", x.load(), 2);
        DUE.is("an entry of the first", x.get(0, 0), 1);
        DUE.is("an entry of the second", x.get(1, 1), 1);
        DUE.is("a conflict of the second", x.told(1, 2), 1);
        DUE.is("no conflict of the third", x.told(2, 2), 0);
        isTold("the third", x, 2, -1, 5);
    }

    private static void manySections() {
        FormatFiles x = new FormatFiles();
        HandFile file = HandFile.whole(1, 255);
        for (int p = 11; p >= 0; p--) {
            file.section(p, 0, 1, p, 2);
        }
        file.section(0, 0, 0).into(x);
        DUE.is("255 sections", x.load(), 12);
        DUE.is("they are told", x.count(0), 255);
        isTold("the twelfth", x, 11, 0, 0);
        isTold("the next", x, 12, -1, 5);
        isTold("the one behind", x, 13, -1, 4);
        isTold("the last", x, 254, -1, 4);
        DUE.is("none behind", x.told(255, 1), -1);
        DUE.is("all parts have come", x.count(3), 12);
        DUE.is("no conflicts", x.count(1), 0);
    }

    /** Nothing of a load is left in the next one. */
    private static void loadBehindLoad() {
        FormatFiles x = new FormatFiles();
        x.put(0, 0, 7);
        x.put(1, 0, 7);
        HandFile.whole(1, 2).section(0, 0, 2, 0, 2, 0, 2).section(1, 1, 0).into(x);
        DUE.is("two conflicts", x.load(), 2);
        DUE.is("two conflicts are told", x.count(1), 2);
        HandFile.whole(1, 1).section(0, 0, 0).into(x);
        DUE.is("one section", x.load(), 1);
        DUE.is("no conflicts are left", x.count(1), 0);
        HandFile.whole(1, 2).section(3, 0, 0).begin().bytes(0, 0, 1, 0, 2).wrongEnd().into(x);
        DUE.is("one loaded, one refused", x.load(), 1);
        DUE.is("no conflict in what is refused", x.told(1, 2), 0);
        FormatFiles y = new FormatFiles();
        HandFile.whole(1, 1).section(0, 0, 2, 0, 2, 0, 2).into(y);
        DUE.is("two entries", y.load(), 1);
        y.take(0, 0);
        y.take(0, 1);
        HandFile.whole(1, 1).section(0, 0, 1, 1, 4).into(y);
        DUE.is("one entry", y.load(), 1);
        DUE.is("only this has come", y.count(5), 1);
        HandFile.whole(1, 1).begin().bytes(0, 0, 0).wrongEnd().into(y);
        DUE.is("part 0 is refused", y.load(), 0);
        HandFile.whole(1, 1).section(0, 0, 0).into(y);
        DUE.is("part 0 is not refused any more", y.load(), 1);
    }

    private static void firstPartRefused() {
        FormatFiles x = new FormatFiles();
        x.needs(1, 0, true);
        HandFile.whole(1, 3).begin().bytes(0, 0, 0).wrongEnd().section(1, 0, 1, 0, 0).section(2, 1, 0).into(x);
        DUE.is("part 0 is refused", x.load(), 0);
        isTold("part 0 is refused", x, 0, 0, 6);
        isTold("part 1 needs it", x, 1, 1, 8);
        isTold("part 2 has its rows", x, 2, 2, 7);
    }

    private static void base() {
        FormatFiles x = new FormatFiles();
        HandFile file = HandFile.whole(1, 1).section(2, 0, 1, 0, 2);
        int sum = HandFile.sum(file.toBytes(), 0, file.toBytes().length);
        file.bytes(7, 7).into(x);
        DUE.is("a base with bytes behind it", x.load(), 1);
        HandFile.changes(1, sum, 1).section(2, 0, 0).into(x);
        DUE.is("changes of it", x.load(), 1);
        DUE.is("they are no base", x.load(), 1);
        HandFile other = HandFile.whole(1, 2).section(2, 0, 1, 0, 2).begin().bytes(3, 0, 0).wrongEnd().into(x);
        DUE.is("a file with a refusal", x.load(), 1);
        HandFile.changes(1, HandFile.sum(other.toBytes(), 0, other.toBytes().length), 0).into(x);
        DUE.is("it is no base", x.load(), -13);
        HandFile.changes(1, sum, 0).into(x);
        DUE.is("the base is the one before", x.load(), 0);
        HandFile last = HandFile.whole(0, 0).into(x);
        DUE.is("a file without sections", x.load(), 0);
        HandFile.changes(1, sum, 0).into(x);
        DUE.is("the base is another one", x.load(), -13);
        HandFile.changes(1, HandFile.sum(last.toBytes(), 0, 5), 0).into(x);
        DUE.is("it is that file", x.load(), 0);
    }

    /** Promise 15. */
    private static void told() {
        FormatFiles x = new FormatFiles();
        x.put(6, 0, 5);
        HandFile.whole(1, 2).section(6, 0, 1, 0, 2).begin().bytes(7, 0, 0).wrongEnd().into(x);
        DUE.is("load", x.load(), 1);
        DUE.is("told(0, 0)", x.told(0, 0), 6);
        DUE.is("told(0, 1)", x.told(0, 1), 0);
        DUE.is("told(0, 2)", x.told(0, 2), 1);
        DUE.is("told(1, 0)", x.told(1, 0), 7);
        DUE.is("told(1, 1)", x.told(1, 1), 6);
        DUE.is("told(1, 2)", x.told(1, 2), 0);
        for (int i : new int[] {-1, 2, 255, Integer.MIN_VALUE, Integer.MAX_VALUE}) {
            DUE.is("told(" + i + ", 0)", x.told(i, 0), -1);
        }
        for (int what : new int[] {-1, 3, Integer.MIN_VALUE, Integer.MAX_VALUE}) {
            DUE.is("told(0, " + what + ")", x.told(0, what), -1);
        }
        x.save(true);
        x.put(6, 0, 7);
        DUE.is("of the latest load, whatever is at hand", x.told(0, 2), 1);
        x.poke(0, 1);
        DUE.is("a load that is refused", x.load(), -11);
        DUE.is("then none is told", x.told(0, 0), -1);
    }
}
