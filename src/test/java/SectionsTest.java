import java.util.Arrays;

/** Promise 14, sentence by sentence: why sections are refused. */
public final class SectionsTest {
    private static final int[] GREATEST = {255, 255, 255, 255, 255, 255, 255, 255, 255, 1};
    private static final Due DUE = new Due();

    public static void main(String[] args) {
        bytesEnd();
        bytesEndInCounts();
        bytesEndOfChanges();
        partAbove();
        partAgain();
        partAgainRefused();
        neither();
        countEndsWithZero();
        countTooLong();
        countsAtEdges();
        tooManyEntries();
        mostEntries();
        placeAbove();
        placeAboveByStep();
        lastPlaces();
        sourceNotBefore();
        sourceWithByte1();
        sourceOfFirst();
        sourceAtEdges();
        asTheyCome();
        beforeTheSum();
        wrongSum();
        damagedByte();
        sourceRefused();
        needRefused();
        needNotRefused();
        needOverOthers();
        needOfPart0();
        sixSevenEight();
        nothingMoreIsRead();
        nothingMoreIsReadBehind5();
        partOfItself();
        goesOn();
        changesRefused();
        DUE.end();
    }

    private static void isTold(String what, FormatFiles x, int section, int part, int reason) {
        DUE.is(what + ": part of section " + section, x.told(section, 0), part);
        DUE.is(what + ": reason of section " + section, x.told(section, 1), reason);
    }

    /** Loads one section of part 2 that has its own rows, to the last byte that is given. */
    private static void isReason(int want, int... rows) {
        FormatFiles x = new FormatFiles();
        String what = "rows " + Arrays.toString(rows);
        DUE.is(what, HandFile.whole(1, 1).bytes(2, 0).bytes(rows).load(x), 0);
        isTold(what, x, 0, 2, want);
        DUE.is(what + ": nothing has come", x.count(5), 0);
    }

    /** The last byte of the rows is the one by which they can't be; without it the bytes end. */
    private static void isImpossibleAtLast(int... rows) {
        isReason(5, rows);
        isReason(4, Arrays.copyOf(rows, rows.length - 1));
    }

    private static int[] join(int[] a, int... b) {
        int[] row = Arrays.copyOf(a, a.length + b.length);
        System.arraycopy(b, 0, row, a.length, b.length);
        return row;
    }

    /** n bytes 128, and then b. */
    private static int[] longCount(int n, int b) {
        int[] row = new int[n + 1];
        Arrays.fill(row, 128);
        row[n] = b;
        return row;
    }

    /** Every place where bytes may end. */
    private static void bytesEnd() {
        DUE.sentence("4 the bytes end in it");
        HandFile file = HandFile.whole(1, 3).section(5, 0, 2, 0, 128, 1, 0, 3).section(6, 1, 0).section(7, 0, 0);
        int[] starts = {5, 17, 24, 31};
        for (int n = 5; n <= 31; n++) {
            FormatFiles x = new FormatFiles();
            file.into(x);
            x.cut(n);
            int whole = 0;
            while (whole < 3 && n >= starts[whole + 1]) {
                whole++;
            }
            DUE.is("cut to " + n, x.load(), whole);
            DUE.is("cut to " + n + ": sections told", x.count(0), 3);
            for (int s = 0; s < 3; s++) {
                boolean isKnown = s < whole || s == whole && n > starts[s];
                isTold("cut to " + n, x, s, isKnown ? 5 + s : -1, s < whole ? 0 : 4);
            }
        }
    }

    private static void bytesEndInCounts() {
        DUE.sentence("4 the bytes end in it (in a count)");
        isReason(4, 128);
        isReason(4, 1);
        isReason(4, 1, 128);
        isReason(4, 1, 99);
        isReason(4, join(new int[] {1, 0}, Arrays.copyOf(GREATEST, 9)));
        isReason(4, join(new int[] {1, 0}, GREATEST));
        isReason(4, 100);
        isReason(4, 0, 1, 2, 3);
    }

    private static void bytesEndOfChanges() {
        DUE.sentence("4 the bytes end in it (of changes)");
        byte[] row = new HandFile().section(3, 0, 1, 0, 2).toBytes();
        for (int n = 0; n < row.length; n++) {
            FormatFiles x = new FormatFiles();
            x.put(3, 0, 1);
            x.save(true);
            x.put(3, 0, 2);
            x.save(false);
            x.cut(9 + n);
            DUE.is("cut to " + n + " of the section", x.load(), 0);
            isTold("cut to " + n + " of the section", x, 0, n == 0 ? -1 : 3, 4);
            DUE.is("the entry stays", x.get(3, 0), 2);
        }
    }

    private static void partAbove() {
        DUE.sentence("5 a byte that can't be: a part above 11");
        for (int part : new int[] {12, 127, 128, 255}) {
            FormatFiles x = new FormatFiles();
            DUE.is("part " + part, HandFile.whole(1, 1).section(part, 0, 0).load(x), 0);
            isTold("part " + part, x, 0, -1, 5);
        }
        FormatFiles x = new FormatFiles();
        DUE.is("parts 11 and 0", HandFile.whole(1, 2).section(11, 0, 0).section(0, 0, 0).load(x), 2);
    }

    private static void partAgain() {
        DUE.sentence("5 .. or one that an earlier section is of");
        for (int part : new int[] {0, 11}) {
            FormatFiles x = new FormatFiles();
            HandFile file = HandFile.whole(1, 3).section(part, 0, 0).section(5, 0, 0).section(part, 0, 1, 0, 0);
            DUE.is("part " + part + " again", file.load(x), 2);
            isTold("part " + part + " again", x, 0, part, 0);
            isTold("part " + part + " again", x, 2, -1, 5);
            DUE.is("nothing has come", x.count(5), 0);
        }
    }

    private static void partAgainRefused() {
        DUE.sentence("5 .. or one that an earlier section is of (that was refused)");
        FormatFiles x = new FormatFiles();
        HandFile file = HandFile.whole(1, 2).begin().bytes(3, 0, 0).wrongEnd().section(3, 0, 0);
        DUE.is("a refused part again", file.load(x), 0);
        isTold("a refused part again", x, 0, 3, 6);
        isTold("a refused part again", x, 1, -1, 5);
    }

    private static void neither() {
        DUE.sentence("5 .. what is behind it neither 0 nor 1");
        for (int kind : new int[] {2, 127, 128, 255}) {
            FormatFiles x = new FormatFiles();
            DUE.is("the byte " + kind, HandFile.whole(1, 1).section(3, kind, 0).load(x), 0);
            isTold("the byte " + kind, x, 0, 3, 5);
        }
    }

    private static void countEndsWithZero() {
        DUE.sentence("COUNTS: .. the last one is 0 only if it is the only one");
        for (int n = 1; n <= 9; n++) {
            isImpossibleAtLast(longCount(n, 0));
            isImpossibleAtLast(join(new int[] {1}, longCount(n, 0)));
            isImpossibleAtLast(join(new int[] {1, 0}, longCount(n, 0)));
        }
        isImpossibleAtLast(129, 0);
        isImpossibleAtLast(1, 227, 0);
        isImpossibleAtLast(1, 0, 255, 128, 0);
        FormatFiles x = new FormatFiles();
        DUE.is("0 alone", HandFile.whole(1, 2).section(2, 0, 0).section(3, 0, 1, 0, 0).load(x), 2);
        DUE.is("the entry", x.get(3, 0), 0);
    }

    private static void countTooLong() {
        DUE.sentence("COUNTS: .. 10 bytes at most, the tenth at most 1");
        for (int tenth : new int[] {2, 127, 128, 129, 255}) {
            isImpossibleAtLast(longCount(9, tenth));
            isImpossibleAtLast(join(new int[] {1}, longCount(9, tenth)));
            isImpossibleAtLast(join(new int[] {1, 0}, longCount(9, tenth)));
        }
    }

    private static void countsAtEdges() {
        DUE.sentence("COUNTS: 7 bits a byte, the lowest first (read back)");
        for (int k = 1; k <= 9; k++) {
            FormatFiles x = new FormatFiles();
            long half = 1L << 7 * k - 1;
            HandFile file = HandFile.whole(1, 2).begin().bytes(0, 0, 1, 0);
            for (int b = 1; b < k; b++) {
                file.bytes(255);
            }
            file.bytes(127).end().begin().bytes(1, 0, 1, 0).bytes(longCount(k, 1)).end();
            DUE.is("load", file.load(x), 2);
            DUE.is("the greatest of " + k + " bytes", x.get(0, 0), -half);
            DUE.is("the least of one more", x.get(1, 0), half);
        }
        FormatFiles x = new FormatFiles();
        DUE.is("load", HandFile.whole(1, 1).begin().bytes(0, 0, 1, 0).bytes(GREATEST).end().load(x), 1);
        DUE.is("the greatest of all", x.get(0, 0), Long.MIN_VALUE);
    }

    private static void tooManyEntries() {
        DUE.sentence("5 .. of more than 100 entries");
        isImpossibleAtLast(101);
        isImpossibleAtLast(127);
        isImpossibleAtLast(128, 1);
        isImpossibleAtLast(228, 1);
        isImpossibleAtLast(129, 128, 128, 128, 16);
        isImpossibleAtLast(longCount(9, 1));
        isImpossibleAtLast(GREATEST);
    }

    private static void mostEntries() {
        DUE.sentence("of more than 100 entries (not of 100)");
        HandFile file = HandFile.whole(1, 1).begin().bytes(8, 0, 100);
        for (int i = 0; i < 100; i++) {
            file.bytes(0, 2);
        }
        FormatFiles x = new FormatFiles();
        DUE.is("100 entries", file.end().load(x), 1);
        DUE.is("entries", x.count(5), 100);
    }

    private static void placeAbove() {
        DUE.sentence("5 .. a place above 99");
        isImpossibleAtLast(1, 100);
        isImpossibleAtLast(1, 127);
        isImpossibleAtLast(1, 128, 1);
        isImpossibleAtLast(1, 128, 128, 128, 128, 16);
        isImpossibleAtLast(join(new int[] {1}, longCount(9, 1)));
        isImpossibleAtLast(join(new int[] {1}, GREATEST));
    }

    private static void placeAboveByStep() {
        DUE.sentence("5 .. a place above 99 (by how much it is above the one before)");
        isImpossibleAtLast(2, 99, 0, 0);
        isImpossibleAtLast(2, 98, 0, 1);
        isImpossibleAtLast(2, 0, 0, 99);
        isImpossibleAtLast(2, 50, 0, 49);
        isImpossibleAtLast(3, 50, 0, 47, 0, 1);
        isImpossibleAtLast(2, 50, 0, 255, 255, 255, 255, 15);
        isImpossibleAtLast(join(new int[] {2, 50, 0}, GREATEST));
        isImpossibleAtLast(join(new int[] {2, 50, 0}, longCount(9, 1)));
    }

    private static void lastPlaces() {
        DUE.sentence("a place above 99 (not at 99)");
        FormatFiles x = new FormatFiles();
        HandFile file = HandFile.whole(1, 3).section(0, 0, 1, 99, 2).section(1, 0, 2, 98, 2, 0, 4)
                .section(2, 0, 2, 0, 2, 98, 4);
        DUE.is("load", file.load(x), 3);
        DUE.is("at once", x.get(0, 99), 1);
        DUE.is("by the least step", x.get(1, 99), 2);
        DUE.is("by the greatest step", x.get(2, 99), 2);
    }

    /** The third of four sections names another one. */
    private static void isSource(int source, int reason) {
        FormatFiles x = new FormatFiles();
        HandFile file = HandFile.whole(1, 4).section(0, 0, 0).section(1, 1, 0).section(2, 1, source).section(3, 0, 0);
        DUE.is("the rows of section " + source, file.load(x), reason == 0 ? 4 : 2);
        isTold("the rows of section " + source, x, 2, 2, reason);
    }

    private static void sourceNotBefore() {
        DUE.sentence("5 .. a section that is not one before it");
        for (int source : new int[] {2, 3, 4, 11, 12, 128, 255}) {
            isSource(source, 5);
        }
    }

    private static void sourceWithByte1() {
        DUE.sentence("5 .. a section that is not one before it with the byte 0");
        isSource(1, 5);
        isSource(0, 0);
    }

    private static void sourceOfFirst() {
        DUE.sentence("a section that is not one before it (of the first section)");
        for (int source : new int[] {0, 1, 255}) {
            FormatFiles x = new FormatFiles();
            DUE.is("the rows of section " + source, HandFile.whole(1, 1).section(0, 1, source).load(x), 0);
            isTold("the rows of section " + source, x, 0, 0, 5);
        }
        FormatFiles x = new FormatFiles();
        HandFile.whole(1, 1).section(0, 0, 0).load(x);
        DUE.is("of a load before", HandFile.whole(1, 2).section(1, 1, 0).section(0, 0, 0).load(x), 0);
        isTold("of a load before", x, 0, 1, 5);
    }

    private static void sourceAtEdges() {
        DUE.sentence("the section (from 0 on) of this file (the first, and the one just before)");
        FormatFiles x = new FormatFiles();
        HandFile file = HandFile.whole(1, 12);
        for (int s = 0; s < 11; s++) {
            file.section(11 - s, 0, 1, s, 2 * s);
        }
        DUE.is("the one just before", file.section(0, 1, 10).load(x), 12);
        DUE.is("its rows", x.get(0, 10), 10);
        FormatFiles y = new FormatFiles();
        file = HandFile.whole(1, 12);
        for (int s = 0; s < 11; s++) {
            file.section(11 - s, 0, 1, s, 2 * s);
        }
        DUE.is("the first", file.section(0, 1, 0).load(y), 12);
        DUE.is("its rows", y.same(0, 11), true);
    }

    private static void asTheyCome() {
        DUE.sentence("4 and 5 as they come, byte by byte");
        isReason(5, 101);
        isReason(5, 1, 100);
        isReason(5, 1, 0, 128, 0);
        int[][] rows = {{12}, {3, 2}, {3, 1, 0}};
        int[] parts = {-1, 3, 3};
        for (int k = 0; k < rows.length; k++) {
            FormatFiles x = new FormatFiles();
            String what = "the last bytes " + Arrays.toString(rows[k]);
            DUE.is(what, HandFile.whole(1, 1).bytes(rows[k]).load(x), 0);
            isTold(what, x, 0, parts[k], 5);
        }
        isReason(4, 2, 0, 0);
        FormatFiles x = new FormatFiles();
        DUE.is("bytes end where the number should be", HandFile.whole(1, 1).bytes(3, 1).load(x), 0);
        isTold("bytes end where the number should be", x, 0, 3, 4);
    }

    private static void beforeTheSum() {
        DUE.sentence("4 and 5 as they come, byte by byte; then: 6 its sum is another one");
        FormatFiles x = new FormatFiles();
        DUE.is("can't be, wrong sum", HandFile.whole(1, 1).begin().bytes(3, 2).wrongEnd().load(x), 0);
        isTold("can't be, wrong sum", x, 0, 3, 5);
        HandFile file = HandFile.whole(1, 1).bytes(3, 0, 0, 1, 2, 3);
        DUE.is("a wrong sum that is cut off", file.load(x), 0);
        isTold("a wrong sum that is cut off", x, 0, 3, 4);
    }

    private static void wrongSum() {
        DUE.sentence("6 its sum is another one");
        for (int bit = 0; bit < 32; bit++) {
            FormatFiles x = new FormatFiles();
            HandFile.whole(1, 1).section(1, 0, 1, 1, 2).into(x);
            x.poke(10 + bit / 8, 1 << bit % 8);
            DUE.is("bit " + bit + " of the sum", x.load(), 0);
            isTold("bit " + bit + " of the sum", x, 0, 1, 6);
            DUE.is("nothing has come", x.count(5), 0);
            x.poke(10 + bit / 8, 1 << bit % 8);
            DUE.is("turned back", x.load(), 1);
        }
    }

    private static void damagedByte() {
        DUE.sentence("6 its sum is another one (by a byte before)");
        int[] places = {9, 9, 8, 5};
        int[] masks = {1, 64, 3, 2};
        for (int k = 0; k < places.length; k++) {
            FormatFiles x = new FormatFiles();
            HandFile.whole(1, 1).section(1, 0, 1, 1, 2).into(x);
            x.poke(places[k], masks[k]);
            DUE.is("byte " + places[k] + " turned by " + masks[k], x.load(), 0);
            isTold("byte " + places[k], x, 0, places[k] == 5 ? 3 : 1, 6);
        }
    }

    private static void sourceRefused() {
        DUE.sentence("7 the section that it names was refused");
        FormatFiles x = new FormatFiles();
        HandFile file = HandFile.whole(1, 4).section(1, 0, 1, 1, 2).begin().bytes(2, 0, 1, 1, 4).wrongEnd()
                .section(3, 1, 0).section(4, 1, 1);
        DUE.is("load", file.load(x), 2);
        isTold("the rows of a loaded one", x, 2, 3, 0);
        isTold("the rows of a refused one", x, 3, 4, 7);
        DUE.is("entries", x.count(5), 2);
        FormatFiles y = new FormatFiles();
        DUE.is("of section 0 and part 0", HandFile.whole(1, 2).begin().bytes(0, 0, 0).wrongEnd()
                .section(1, 1, 0).load(y), 0);
        isTold("of section 0 and part 0", y, 1, 1, 7);
        FormatFiles z = new FormatFiles();
        z.needs(2, 1, true);
        DUE.is("refused by 8", HandFile.whole(1, 3).begin().bytes(1, 0, 0).wrongEnd().section(2, 0, 1, 0, 2)
                .section(3, 1, 1).load(z), 0);
        isTold("refused by 8", z, 1, 2, 8);
        isTold("names one refused by 8", z, 2, 3, 7);
    }

    private static void needRefused() {
        DUE.sentence("8 a part that it needs was refused in an earlier section");
        FormatFiles x = new FormatFiles();
        x.needs(2, 1, true);
        x.needs(3, 2, true);
        x.needs(5, 4, true);
        x.needs(11, 9, true);
        x.needs(11, 5, true);
        HandFile file = HandFile.whole(1, 6).begin().bytes(1, 0, 0).wrongEnd().section(2, 0, 0).section(3, 0, 0)
                .section(4, 1, 0).section(5, 0, 0).section(11, 0, 0);
        DUE.is("load", file.load(x), 0);
        int[] parts = {1, 2, 3, 4, 5, 11};
        int[] reasons = {6, 8, 8, 7, 8, 8};
        for (int s = 0; s < 6; s++) {
            isTold("needs one refused by 6, by 8, by 7, one of two", x, s, parts[s], reasons[s]);
        }
    }

    private static void needNotRefused() {
        DUE.sentence("was refused in an earlier section (not in a later one, or in none)");
        FormatFiles x = new FormatFiles();
        x.needs(2, 1, true);
        x.needs(2, 7, true);
        HandFile file = HandFile.whole(1, 2).section(2, 0, 0).begin().bytes(1, 0, 0).wrongEnd();
        DUE.is("in a later one", file.load(x), 1);
        isTold("in a later one", x, 0, 2, 0);
        DUE.is("in none of this file", HandFile.whole(1, 1).section(2, 0, 0).load(x), 1);
        x.needs(2, 1, false);
        file = HandFile.whole(1, 2).begin().bytes(1, 0, 0).wrongEnd().section(2, 0, 0);
        DUE.is("needed no more", file.load(x), 1);
        isTold("needed no more", x, 1, 2, 0);
        x.needs(1, 2, true);
        DUE.is("the other way round", x.load(), 1);
    }

    private static void needOverOthers() {
        DUE.sentence("8 a part that it needs (not over a part that the file has not)");
        FormatFiles x = new FormatFiles();
        x.needs(3, 2, true);
        x.needs(2, 1, true);
        HandFile file = HandFile.whole(1, 2).begin().bytes(1, 0, 0).wrongEnd().section(3, 0, 1, 0, 0);
        DUE.is("load", file.load(x), 1);
        isTold("needed over another", x, 1, 3, 0);
    }

    private static void needOfPart0() {
        DUE.sentence("8 a part that it needs (the first and the last part)");
        FormatFiles x = new FormatFiles();
        x.needs(11, 0, true);
        DUE.is("0 is needed", HandFile.whole(1, 2).begin().bytes(0, 0, 0).wrongEnd().section(11, 0, 0).load(x), 0);
        isTold("0 is needed", x, 1, 11, 8);
        x.needs(11, 0, false);
        x.needs(0, 11, true);
        DUE.is("11 is needed", HandFile.whole(1, 2).begin().bytes(11, 0, 0).wrongEnd().section(0, 0, 0).load(x), 0);
        isTold("11 is needed", x, 1, 0, 8);
    }

    private static void sixSevenEight() {
        DUE.sentence("then: 6 .. 7 .. 8 (the first that fits)");
        FormatFiles x = new FormatFiles();
        for (int p = 2; p < 5; p++) {
            x.needs(p, 1, true);
        }
        HandFile file = HandFile.whole(1, 4).begin().bytes(1, 0, 0).wrongEnd().begin().bytes(2, 1, 0).wrongEnd()
                .section(3, 1, 0).begin().bytes(4, 0, 0).wrongEnd();
        DUE.is("load", file.load(x), 0);
        isTold("6, 7 and 8 fit", x, 1, 2, 6);
        isTold("7 and 8 fit", x, 2, 3, 7);
        isTold("6 and 8 fit", x, 3, 4, 6);
    }

    private static void nothingMoreIsRead() {
        DUE.sentence("Behind 4 and 5 nothing more is read: all sections that would come are refused by 4, their parts -1");
        FormatFiles x = new FormatFiles();
        DUE.is("bytes end", HandFile.whole(1, 4).section(1, 0, 0).bytes(2, 0).load(x), 1);
        isTold("bytes end", x, 1, 2, 4);
        isTold("bytes end", x, 2, -1, 4);
        isTold("bytes end", x, 3, -1, 4);
        DUE.is("bytes end: conflicts", x.told(3, 2), 0);
        DUE.is("bytes end: sections that are told", x.count(0), 4);
    }

    private static void nothingMoreIsReadBehind5() {
        DUE.sentence("Behind 4 and 5 nothing more is read (a right section behind 5)");
        int[][] rows = {{12}, {3, 2}, {3, 0, 101}, {3, 0, 1, 100}, {3, 0, 1, 0, 128, 0}, {3, 1, 0}};
        for (int[] row : rows) {
            FormatFiles x = new FormatFiles();
            HandFile file = HandFile.whole(1, 3).bytes(row).section(5, 0, 1, 0, 2).section(6, 0, 1, 0, 2);
            String what = "behind " + Arrays.toString(row);
            DUE.is(what, file.load(x), 0);
            isTold(what, x, 0, row[0] == 12 ? -1 : 3, 5);
            isTold(what, x, 1, -1, 4);
            isTold(what, x, 2, -1, 4);
            DUE.is(what + ": nothing has come", x.count(5), 0);
        }
    }

    private static void partOfItself() {
        DUE.sentence("(that of the section itself, too, if it has not been read, or can't be)");
        FormatFiles x = new FormatFiles();
        DUE.is("not read", HandFile.whole(1, 2).section(1, 0, 0).load(x), 1);
        isTold("not read", x, 1, -1, 4);
        DUE.is("can't be", HandFile.whole(1, 2).section(1, 0, 0).bytes(12).load(x), 1);
        isTold("can't be", x, 1, -1, 5);
        DUE.is("can't be again", HandFile.whole(1, 2).section(1, 0, 0).bytes(1).load(x), 1);
        isTold("can't be again", x, 1, -1, 5);
        DUE.is("read", HandFile.whole(1, 2).section(1, 0, 0).bytes(11).load(x), 1);
        isTold("read", x, 1, 11, 4);
    }

    private static void goesOn() {
        DUE.sentence("behind 6, 7, 8 it goes on");
        FormatFiles x = new FormatFiles();
        x.needs(3, 1, true);
        HandFile file = HandFile.whole(1, 4).begin().bytes(1, 0, 0).wrongEnd().section(2, 1, 0).section(3, 0, 0)
                .section(4, 0, 1, 0, 2);
        DUE.is("load", file.load(x), 1);
        int[] reasons = {6, 7, 8, 0};
        for (int s = 0; s < 4; s++) {
            isTold("6, 7, 8, loaded", x, s, s + 1, reasons[s]);
        }
        DUE.is("the entry of the last", x.get(4, 0), 1);
    }

    private static void changesRefused() {
        DUE.sentence("A section is REFUSED by (of changes)");
        FormatFiles x = new FormatFiles();
        x.save(true);
        for (int p = 0; p < 5; p++) {
            x.put(p, 0, 9);
        }
        x.needs(2, 0, true);
        HandFile file = HandFile.changes(1, HandFile.whole(1, 0).sum(), 5).begin().bytes(0, 0, 0).wrongEnd()
                .section(1, 1, 0).section(2, 0, 0).section(3, 0, 0).section(4, 2);
        DUE.is("load", file.load(x), 1);
        int[] reasons = {6, 7, 8, 0, 5};
        for (int s = 0; s < 5; s++) {
            isTold("of changes", x, s, s, reasons[s]);
            DUE.is("entries of part " + s, x.take(s, 0), s == 3 ? 0 : 1);
        }
    }
}
