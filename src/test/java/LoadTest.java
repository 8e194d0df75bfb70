import java.util.NoSuchElementException;

/** Promise 14, sentence by sentence: loading, refused as a whole, or entry by entry; sections are for SectionsTest. */
public final class LoadTest {
    private static final Due DUE = new Due();

    public static void main(String[] args) {
        howMany();
        nothingAtHand();
        busy();
        busyFirst();
        bytesStay();
        firstBytes();
        thirdByte();
        endsBeforeSections();
        endsBeforeSectionsOfChanges();
        endsBehindHead();
        version();
        otherBase();
        noBase();
        firstThatFits();
        refusedChangesNothing();
        asManyAsItSays();
        asManyAsItSaysNone();
        asManyAsItSaysMost();
        bytesBehind();
        wholePut();
        wholeSameStays();
        wholeConflictStays();
        wholeConflictBecomes();
        wholeRowsOfFile();
        wholeWithoutRows();
        wholeFullPart();
        changesJustTheirs();
        changesWithoutRows();
        changesWithoutConflicts();
        changesLeaveOthers();
        loadedAtOnce();
        nothingLeftOfLoadBefore();
        DUE.end();
    }

    private static void isNone(String what, FormatFiles x, int part, int i) {
        DUE.isThrown(what, () -> x.get(part, i), NoSuchElementException.class);
    }

    /** A file without sections is the base, and its sum is told. */
    private static int emptyBase(FormatFiles x) {
        x.save(true);
        return HandFile.whole(1, 0).sum();
    }

    private static void howMany() {
        DUE.sentence("14: LOADING: how many sections were loaded");
        HandFile file = HandFile.whole(1, 3).section(0, 0, 0).begin().bytes(1, 0, 0).wrongEnd().section(2, 0, 0);
        DUE.is("two of three", file.load(new FormatFiles()), 2);
        DUE.is("none of one", HandFile.whole(1, 1).begin().bytes(1, 0, 0).wrongEnd().load(new FormatFiles()), 0);
        FormatFiles x = new FormatFiles();
        HandFile all = HandFile.whole(1, 12);
        for (int p = 11; p >= 0; p--) {
            all.section(p, 0, 1, p, 2);
        }
        DUE.is("twelve of twelve", all.load(x), 12);
        DUE.is("parts with entries", x.count(3), 12);
    }

    private static void nothingAtHand() {
        DUE.sentence("14: 0 with no bytes at hand");
        FormatFiles x = new FormatFiles();
        DUE.is("at first", x.load(), 0);
        x.save(true);
        x.cut(0);
        DUE.is("all cut off", x.load(), 0);
        DUE.is("the base stays", x.save(false), 9);
    }

    private static void busy() {
        DUE.sentence("14: -3 busy");
        FormatFiles x = new FormatFiles();
        HandFile.whole(1, 1).section(4, 0, 1, 0, 2).into(x);
        x.busy(true);
        DUE.is("busy", x.load(), -3);
        DUE.is("nothing has come", x.count(5), 0);
        DUE.is("it is no base", x.save(false), -3);
        x.busy(false);
        DUE.is("no more busy", x.load(), 1);
    }

    private static void busyFirst() {
        DUE.sentence("REFUSALS answer, the first that fits (load)");
        FormatFiles x = new FormatFiles();
        x.busy(true);
        DUE.is("busy with no bytes", x.load(), -3);
        x.add((byte) 1);
        DUE.is("busy with bytes that are no file", x.load(), -3);
        HandFile.whole(2, 0).into(x);
        DUE.is("busy with a file that is too new", x.load(), -3);
    }

    private static void bytesStay() {
        DUE.sentence("14: The bytes at hand stay");
        FormatFiles x = new FormatFiles();
        byte[] row = HandFile.whole(1, 2).section(4, 0, 1, 0, 2).bytes(5, 9).into(x).toBytes();
        x.load();
        x.poke(0, 1);
        x.load();
        x.poke(0, 1);
        DUE.is("how many", x.count(2), row.length);
        for (int i = 0; i < row.length; i++) {
            DUE.is("octet(" + i + ")", x.octet(i), row[i]);
        }
        DUE.is("load again", x.load(), 1);
    }

    private static void isWholeRefusal(int want, int... row) {
        FormatFiles x = new FormatFiles();
        HandFile.whole(1, 1).section(0, 0, 0).load(x);
        String what = java.util.Arrays.toString(row);
        DUE.is(what, new HandFile().bytes(row).load(x), want);
        DUE.is(what + ": sections that are told", x.count(0), 0);
        DUE.is(what + ": told(0, 1)", x.told(0, 1), -1);
    }

    private static void firstBytes() {
        DUE.sentence("1 the first two bytes are other ones");
        isWholeRefusal(-11, 71, 77, 0, 1, 0);
        isWholeRefusal(-11, 70, 76, 0, 1, 0);
        isWholeRefusal(-11, 77, 70, 0, 1, 0);
        isWholeRefusal(-11, 70 + 128, 77, 0, 1, 0);
        isWholeRefusal(-11, 70, 77 + 128, 0, 1, 0);
        isWholeRefusal(-11, 0, 0, 0, 0, 0);
    }

    private static void thirdByte() {
        DUE.sentence("1 .. the third is neither 0 nor 1");
        isWholeRefusal(-11, 70, 77, 2, 1, 0);
        isWholeRefusal(-11, 70, 77, 2, 1, 0, 0, 0, 0, 0);
        isWholeRefusal(-11, 70, 77, 128, 1, 0, 0, 0, 0, 0);
        isWholeRefusal(-11, 70, 77, 255, 1, 0, 0, 0, 0, 0);
    }

    private static void endsBeforeSections() {
        DUE.sentence("1 .. bytes end before the first section begins (with the number of sections)");
        isWholeRefusal(-11, 70);
        isWholeRefusal(-11, 70, 77);
        isWholeRefusal(-11, 70, 77, 0);
        isWholeRefusal(-11, 70, 77, 0, 1);
    }

    private static void endsBeforeSectionsOfChanges() {
        DUE.sentence("1 .. bytes end before the first section begins (of changes)");
        byte[] row = HandFile.changes(1, HandFile.whole(1, 0).sum(), 0).toBytes();
        for (int n = 1; n < row.length; n++) {
            FormatFiles x = new FormatFiles();
            x.save(true);
            x.save(false);
            x.cut(n);
            DUE.is("the first " + n, x.load(), -11);
        }
    }

    private static void endsBehindHead() {
        DUE.sentence("bytes end before the first section begins (not behind the number of sections)");
        FormatFiles x = new FormatFiles();
        DUE.is("whole, without sections", HandFile.whole(1, 0).load(x), 0);
        DUE.is("changes, without sections", HandFile.changes(1, HandFile.whole(1, 0).sum(), 0).load(x), 0);
        DUE.is("whole, with a section that is not there", HandFile.whole(1, 1).load(x), 0);
        DUE.is("sections that are told", x.count(0), 1);
    }

    private static void version() {
        DUE.sentence("2 its version is above the setter's");
        FormatFiles x = new FormatFiles();
        DUE.is("2 for 1", HandFile.whole(2, 0).load(x), -12);
        DUE.is("1 for 1", HandFile.whole(1, 0).load(x), 0);
        DUE.is("0 for 1", HandFile.whole(0, 0).load(x), 0);
        x.version(199);
        DUE.is("200 for 199", HandFile.whole(200, 1).section(0, 0, 1, 0, 0).load(x), -12);
        DUE.is("nothing has come", x.count(5), 0);
        DUE.is("199 for 199", HandFile.whole(199, 0).load(x), 0);
        x.version(200);
        DUE.is("200 for 200", HandFile.whole(200, 0).load(x), 0);
        DUE.is("201 for 200", HandFile.whole(201, 0).load(x), -12);
        DUE.is("255 for 200", HandFile.whole(255, 0).load(x), -12);
        x.version(100);
        DUE.is("128 for 100", HandFile.whole(128, 0).load(x), -12);
    }

    private static void otherBase() {
        DUE.sentence("3 it is of changes, and the base's sum is not the one that it tells");
        for (int bit = 0; bit < 32; bit++) {
            FormatFiles x = new FormatFiles();
            int sum = emptyBase(x);
            HandFile file = HandFile.changes(1, sum ^ 1 << bit, 1).section(0, 0, 1, 0, 0);
            DUE.is("another one by bit " + bit, file.load(x), -13);
            DUE.is("nothing has come", x.count(5), 0);
            x.poke(4 + bit / 8, 1 << bit % 8);
            DUE.is("the one that it tells", x.load(), 1);
            DUE.is("it has come", x.count(5), 1);
        }
    }

    private static void noBase() {
        DUE.sentence("3 .. or there is no base");
        FormatFiles x = new FormatFiles();
        DUE.is("the sum 0", HandFile.changes(1, 0, 0).load(x), -13);
        DUE.is("the sum of a file that was never saved",
                HandFile.changes(1, HandFile.whole(1, 0).sum(), 1).section(0, 0, 1, 0, 0).load(x), -13);
        DUE.is("nothing has come", x.count(5), 0);
        DUE.is("sections that are told", x.count(0), 0);
    }

    private static void firstThatFits() {
        DUE.sentence("It is refused as a whole, by the first that fits");
        isWholeRefusal(-11, 70, 77, 0, 2);
        isWholeRefusal(-11, 70, 77, 1, 2, 0, 0, 0, 0);
        isWholeRefusal(-11, 71, 77, 0, 2, 0);
        isWholeRefusal(-11, 70, 77, 2, 2, 0, 0, 0, 0, 0);
        isWholeRefusal(-12, 70, 77, 1, 2, 0, 0, 0, 0, 0);
        isWholeRefusal(-13, 70, 77, 1, 1, 0, 0, 0, 0, 0);
        isWholeRefusal(-13, 70, 77, 1, 1, 0, 0, 0, 0, 1, 12);
    }

    private static void refusedChangesNothing() {
        DUE.sentence("THE BASE is the whole file that was .. loaded without a refusal (not one refused as a whole)");
        FormatFiles x = new FormatFiles();
        x.put(1, 1, 1);
        int sum = HandFile.whole(1, 1).section(1, 0, 1, 1, 2).sum();
        x.save(true);
        HandFile.whole(2, 0).load(x);
        DUE.is("changes of the base before", HandFile.changes(1, sum, 0).load(x), 0);
        DUE.is("changed parts", x.count(4), 0);
        DUE.is("its entries", x.count(5), 1);
    }

    private static void asManyAsItSays() {
        DUE.sentence("Otherwise sections are read one by one, as many as it says");
        FormatFiles x = new FormatFiles();
        HandFile file = HandFile.whole(1, 1).section(0, 0, 1, 0, 2).section(1, 0, 1, 0, 2);
        DUE.is("one of two", file.load(x), 1);
        DUE.is("sections that are told", x.count(0), 1);
        isNone("the second is not read", x, 1, 0);
    }

    private static void asManyAsItSaysNone() {
        DUE.sentence("as many as it says (none)");
        FormatFiles x = new FormatFiles();
        DUE.is("none of one", HandFile.whole(1, 0).section(0, 0, 1, 0, 2).load(x), 0);
        DUE.is("sections that are told", x.count(0), 0);
        DUE.is("nothing has come", x.count(5), 0);
        DUE.is("it is the base", HandFile.changes(1, HandFile.whole(1, 0).sum(), 0).load(x), 0);
    }

    private static void asManyAsItSaysMost() {
        DUE.sentence("as many as it says (255)");
        FormatFiles x = new FormatFiles();
        HandFile file = HandFile.whole(1, 255);
        for (int p = 11; p >= 0; p--) {
            file.section(p, 0, 1, p, 2);
        }
        DUE.is("twelve of 255", file.load(x), 12);
        DUE.is("sections that are told", x.count(0), 255);
        DUE.is("the last that is there", x.told(11, 0), 0);
        DUE.is("the last of all", x.told(254, 1), 4);
        DUE.is("none behind it", x.told(255, 1), -1);
        DUE.is("it is no base", x.save(false), -3);
    }

    private static void bytesBehind() {
        DUE.sentence("bytes behind them are passed over");
        FormatFiles x = new FormatFiles();
        HandFile file = HandFile.whole(1, 1).section(3, 0, 1, 0, 2);
        int sum = file.sum();
        DUE.is("a section with bytes behind it", file.bytes(3, 255, 1).load(x), 1);
        DUE.is("the reason", x.told(0, 1), 0);
        DUE.is("the base is known without them", HandFile.changes(1, sum, 0).bytes(7).load(x), 0);
    }

    private static void wholePut() {
        DUE.sentence("where there is none, it is put");
        FormatFiles x = new FormatFiles();
        x.put(2, 50, 1);
        DUE.is("load", HandFile.whole(1, 2).section(2, 0, 2, 0, 1, 98, 4).section(11, 1, 0).load(x), 2);
        DUE.is("the first place", x.get(2, 0), -1);
        DUE.is("the last place", x.get(2, 99), 2);
        DUE.is("what the file has not stays", x.get(2, 50), 1);
        DUE.is("the last part", x.get(11, 99), 2);
        DUE.is("entries", x.count(5), 5);
        DUE.is("conflicts", x.count(1), 0);
    }

    private static void wholeSameStays() {
        DUE.sentence("the same stays");
        for (int mode = 0; mode < 2; mode++) {
            FormatFiles x = new FormatFiles();
            x.mode(mode);
            x.put(0, 0, 5);
            DUE.is("load", HandFile.whole(1, 1).section(0, 0, 1, 0, 10).load(x), 1);
            DUE.is("the entry", x.get(0, 0), 5);
            DUE.is("conflicts", x.told(0, 2), 0);
            DUE.is("entries", x.count(5), 1);
        }
    }

    private static FormatFiles withConflicts(int mode) {
        FormatFiles x = new FormatFiles();
        x.mode(mode);
        x.put(0, 0, 5);
        x.put(0, 50, 6);
        x.put(0, 99, 7);
        DUE.is("load", HandFile.whole(1, 1).section(0, 0, 4, 0, 2, 49, 12, 0, 2, 47, 2).load(x), 1);
        DUE.is("conflicts", x.told(0, 2), 2);
        DUE.is("where there was none", x.get(0, 51), 1);
        DUE.is("the same", x.get(0, 50), 6);
        DUE.is("entries", x.count(5), 4);
        return x;
    }

    private static void wholeConflictStays() {
        DUE.sentence("another one is a CONFLICT: it stays in mode 0");
        FormatFiles x = withConflicts(0);
        DUE.is("at the first place", x.get(0, 0), 5);
        DUE.is("at the last place", x.get(0, 99), 7);
        x.load();
        DUE.is("conflicts then, again", x.told(0, 2), 2);
    }

    private static void wholeConflictBecomes() {
        DUE.sentence("another one is a CONFLICT: it .. becomes that of the file in mode 1");
        FormatFiles x = withConflicts(1);
        DUE.is("at the first place", x.get(0, 0), 1);
        DUE.is("at the last place", x.get(0, 99), 1);
        x.load();
        DUE.is("conflicts then", x.told(0, 2), 0);
    }

    /** In mode 0 the part of a section need not have the rows of it then. */
    private static void wholeRowsOfFile() {
        DUE.sentence("the section (from 0 on) of this file whose rows are its own, too");
        FormatFiles x = new FormatFiles();
        x.put(4, 0, 5);
        x.put(4, 1, 5);
        HandFile file = HandFile.whole(1, 3).section(4, 0, 1, 0, 2).section(7, 0, 1, 0, 4).section(9, 1, 0);
        DUE.is("load", file.load(x), 3);
        DUE.is("the entry there", x.get(4, 0), 5);
        DUE.is("the rows of the file", x.get(9, 0), 1);
        isNone("not those of the part", x, 9, 1);
    }

    private static void wholeWithoutRows() {
        DUE.sentence("of a whole file each entry comes to the part (none)");
        FormatFiles x = new FormatFiles();
        x.put(4, 0, 5);
        DUE.is("load", HandFile.whole(1, 2).section(4, 0, 0).section(5, 1, 0).load(x), 2);
        DUE.is("the entry stays", x.get(4, 0), 5);
        DUE.is("entries", x.count(5), 1);
    }

    private static void wholeFullPart() {
        DUE.sentence("a count, how many entries (100, read back)");
        FormatFiles x = new FormatFiles();
        HandFile file = HandFile.whole(1, 1).begin().bytes(0, 0, 100);
        for (int i = 0; i < 100; i++) {
            file.bytes(0, i);
        }
        DUE.is("load", file.end().load(x), 1);
        DUE.is("entries", x.count(5), 100);
        for (int i = 0; i < 100; i++) {
            DUE.is("the entry at " + i, x.get(0, i), i % 2 == 0 ? i / 2 : -(i + 1) / 2);
        }
    }

    private static void changesJustTheirs() {
        DUE.sentence("Of a file of changes the part has just its entries then");
        FormatFiles x = new FormatFiles();
        int sum = emptyBase(x);
        x.put(1, 0, 1);
        x.put(1, 2, 2);
        x.put(1, 99, 3);
        HandFile file = HandFile.changes(1, sum, 2).section(1, 0, 2, 2, 6, 5, 1).section(11, 1, 0);
        DUE.is("load", file.load(x), 2);
        isNone("the first place", x, 1, 0);
        DUE.is("another entry", x.get(1, 2), 3);
        DUE.is("a new entry", x.get(1, 8), -1);
        isNone("the last place", x, 1, 99);
        DUE.is("the rows of another section", x.same(1, 11), true);
        DUE.is("entries", x.count(5), 4);
    }

    private static void changesWithoutRows() {
        DUE.sentence("Of a file of changes the part has just its entries then (none)");
        FormatFiles x = new FormatFiles();
        int sum = emptyBase(x);
        x.put(3, 0, 3);
        x.put(3, 99, 3);
        DUE.is("load", HandFile.changes(1, sum, 1).section(3, 0, 0).load(x), 1);
        DUE.is("entries", x.count(5), 0);
        DUE.is("parts with entries", x.count(3), 0);
    }

    private static void changesWithoutConflicts() {
        DUE.sentence("(no conflicts)");
        for (int mode = 0; mode < 2; mode++) {
            FormatFiles x = new FormatFiles();
            int sum = emptyBase(x);
            x.mode(mode);
            x.put(3, 3, 3);
            DUE.is("load", HandFile.changes(1, sum, 1).section(3, 0, 1, 3, 8).load(x), 1);
            DUE.is("the entry is that of the file", x.get(3, 3), 4);
            DUE.is("conflicts in it", x.told(0, 2), 0);
            DUE.is("conflicts", x.count(1), 0);
        }
    }

    private static void changesLeaveOthers() {
        DUE.sentence("Of a file of changes the part has just its entries then (a part that it has not stays)");
        FormatFiles x = new FormatFiles();
        int sum = emptyBase(x);
        x.put(2, 2, 2);
        x.put(4, 4, 4);
        DUE.is("load", HandFile.changes(1, sum, 1).section(3, 0, 1, 3, 8).load(x), 1);
        DUE.is("the part before", x.get(2, 2), 2);
        DUE.is("the part behind", x.get(4, 4), 4);
    }

    private static void loadedAtOnce() {
        DUE.sentence("A section that is not refused is LOADED at once");
        FormatFiles x = new FormatFiles();
        x.put(1, 0, 0);
        HandFile file = HandFile.whole(1, 3).section(0, 0, 1, 0, 2).section(1, 0, 2, 0, 2, 0, 2).bytes(12);
        DUE.is("sections before one that can't be", file.load(x), 2);
        DUE.is("an entry of the first", x.get(0, 0), 1);
        DUE.is("an entry of the second", x.get(1, 1), 1);
        DUE.is("a conflict of the second", x.told(1, 2), 1);
        FormatFiles y = new FormatFiles();
        int sum = emptyBase(y);
        DUE.is("of changes", HandFile.changes(1, sum, 2).section(0, 0, 1, 0, 2).bytes(1).load(y), 1);
        DUE.is("an entry of the first", y.get(0, 0), 1);
    }

    private static void nothingLeftOfLoadBefore() {
        DUE.sentence("LOADING reads the bytes at hand, in order (each time anew)");
        FormatFiles x = new FormatFiles();
        x.needs(1, 0, true);
        DUE.is("part 0 is refused", HandFile.whole(1, 1).begin().bytes(0, 0, 0).wrongEnd().load(x), 0);
        HandFile file = HandFile.whole(1, 2).section(0, 0, 2, 0, 2, 0, 2).section(1, 1, 0);
        DUE.is("part 0 is not refused any more", file.load(x), 2);
        x.take(0, 0);
        x.take(0, 1);
        DUE.is("other rows", HandFile.whole(1, 1).section(0, 0, 1, 1, 4).load(x), 1);
        isNone("those of the load before do not come", x, 0, 0);
        DUE.is("the other ones", x.get(0, 1), 2);
    }
}
