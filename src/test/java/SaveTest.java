import java.util.Arrays;

/** Promise 9 and the sentences about files, sentence by sentence: files as they are saved, byte by byte. */
public final class SaveTest {
    /** Entries whose counts have 7 and 8 bytes. */
    private static final long ONE_LESS = (1L << 48) - 1;
    private static final long ONE_MORE = 1L << 48;
    private static final Due DUE = new Due();

    public static void main(String[] args) {
        head();
        headOfChanges();
        sumOfSection();
        sumOfBase();
        sumOfHighBytes();
        countsAtEdges();
        longsAtEdges();
        noSections();
        allSections();
        oneEntry();
        risingPlaces();
        fullPart();
        rowsOfNone();
        orderLeastFirst();
        orderByNeeds();
        orderOfLongestChain();
        orderWithoutOthers();
        orderOfChanges();
        alike();
        alikeFirstWithOwnRows();
        alikeInOrderOfFile();
        alikeWithoutEntries();
        writtenWhole();
        writtenChanges();
        howManyBytes();
        inPlaceOfBytes();
        changesWithoutBase();
        changesOfLatestBase();
        noBaseByChanges();
        changedStay();
        mostBytes();
        tooManyBytes();
        mostBytesOfChanges();
        tooManyBytesOfChanges();
        withoutBaseAndTooManyBytes();
        DUE.end();
    }

    private static void isAtHand(String what, FormatFiles x, HandFile want) {
        DUE.is(what, Arrays.toString(HandFile.atHand(x)), Arrays.toString(want.toBytes()));
    }

    private static void head() {
        DUE.sentence("A FILE: bytes 70, 77, then 0 (WHOLE) .. the version");
        for (int v : new int[] {1, 127, 128, 200}) {
            FormatFiles x = new FormatFiles();
            x.version(v);
            x.save(true);
            isAtHand("a file of version " + v, x, new HandFile().bytes(70, 77, 0, v, 0));
        }
    }

    private static void headOfChanges() {
        DUE.sentence("in a file of changes four bytes, lowest first: the sum of the whole file that they are changes of");
        FormatFiles x = new FormatFiles();
        x.save(true);
        x.save(false);
        isAtHand("changes of a file of version 1", x, new HandFile().bytes(70, 77, 1, 1, 93, 220, 201, 83, 0));
        x.version(200);
        x.save(false);
        isAtHand("with another version then", x, new HandFile().bytes(70, 77, 1, 200, 93, 220, 201, 83, 0));
        x.save(true);
        x.save(false);
        isAtHand("changes of a file of version 200", x, new HandFile().bytes(70, 77, 1, 200, 120, 234, 169, 25, 0));
    }

    private static void sumOfSection() {
        DUE.sentence("four bytes, lowest first: the sum of the section's bytes before");
        FormatFiles x = new FormatFiles();
        x.put(0, 0, 0);
        x.save(true);
        isAtHand("a section", x, HandFile.whole(1, 1).bytes(0, 0, 1, 0, 0, 11, 118, 120, 15));
        x.put(5, 0, 1);
        x.take(5, 0);
        x.save(false);
        DUE.is("bytes of changes", x.count(2), 16);
        int[] want = {5, 0, 0, 209, 174, 226, 224};
        for (int k = 0; k < want.length; k++) {
            DUE.is("byte " + k + " of a section without entries", x.octet(9 + k), (byte) want[k]);
        }
    }

    private static void sumOfBase() {
        DUE.sentence("it is known by the sum of all its bytes");
        FormatFiles x = new FormatFiles();
        x.put(11, 99, Long.MIN_VALUE);
        x.save(true);
        x.save(false);
        isAtHand("changes", x, new HandFile().bytes(70, 77, 1, 1, 125, 11, 96, 245, 0));
    }

    private static void sumOfHighBytes() {
        DUE.sentence("THE SUM of a row of bytes: .. for each byte b (0 .. 255)");
        FormatFiles x = new FormatFiles();
        x.put(11, 99, Long.MIN_VALUE);
        x.save(true);
        isAtHand("bytes above 127", x, HandFile.whole(1, 1)
                .bytes(11, 0, 1, 99, 255, 255, 255, 255, 255, 255, 255, 255, 255, 1, 144, 132, 192, 88));
    }

    /** The greatest count of k bytes, and the least one of k + 1. */
    private static void countsAtEdges() {
        DUE.sentence("COUNTS: 7 bits a byte, the lowest first, 128 more in all but the last one");
        for (int k = 1; k <= 9; k++) {
            FormatFiles x = new FormatFiles();
            long half = 1L << 7 * k - 1;
            x.put(0, 0, -half);
            x.put(1, 0, half);
            DUE.is("bytes with counts of " + k + " and one more", x.save(true), 5 + 8 + k + 8 + k + 1);
            HandFile want = HandFile.whole(1, 2).begin().bytes(0, 0, 1, 0);
            for (int b = 1; b < k; b++) {
                want.bytes(255);
            }
            want.bytes(127).end().begin().bytes(1, 0, 1, 0);
            for (int b = 1; b <= k; b++) {
                want.bytes(128);
            }
            isAtHand("counts of " + k + " and one more", x, want.bytes(1).end());
        }
    }

    private static void longsAtEdges() {
        DUE.sentence("A long v is told by the count v + v if it is not below 0, else -1 - v - v (as 64 bits without sign)");
        long[] longs = {0, -1, 1, -2, Long.MAX_VALUE, Long.MIN_VALUE, Long.MAX_VALUE - 1, Long.MIN_VALUE + 1};
        int[][] counts = {{0}, {1}, {2}, {3}, {254, 255, 255, 255, 255, 255, 255, 255, 255, 1},
                {255, 255, 255, 255, 255, 255, 255, 255, 255, 1}, {252, 255, 255, 255, 255, 255, 255, 255, 255, 1},
                {253, 255, 255, 255, 255, 255, 255, 255, 255, 1}};
        for (int k = 0; k < longs.length; k++) {
            FormatFiles x = new FormatFiles();
            x.put(0, 5, longs[k]);
            x.save(true);
            isAtHand("the long " + longs[k], x,
                    HandFile.whole(1, 1).begin().bytes(0, 0, 1, 5).bytes(counts[k]).end());
            x.take(0, 5);
            x.load();
            DUE.is("the long read back", x.get(0, 5), longs[k]);
        }
    }

    private static void noSections() {
        DUE.sentence("a byte: how many SECTIONS (none)");
        FormatFiles x = new FormatFiles();
        x.put(3, 3, 3);
        x.take(3, 3);
        DUE.is("save without entries", x.save(true), 5);
        DUE.is("sections", x.octet(4), 0);
        DUE.is("save without changes", x.save(false), 9);
        DUE.is("sections of changes", x.octet(8), 0);
    }

    private static void allSections() {
        DUE.sentence("a byte: how many SECTIONS (all twelve)");
        FormatFiles x = new FormatFiles();
        x.save(true);
        HandFile want = HandFile.whole(1, 12);
        HandFile changes = HandFile.changes(1, HandFile.whole(1, 0).sum(), 12);
        for (int p = 0; p < 12; p++) {
            x.put(p, 0, p);
            want.section(p, 0, 1, 0, 2 * p);
            changes.section(p, 0, 1, 0, 2 * p);
        }
        DUE.is("changes of all", x.save(false), 9 + 12 * 9);
        isAtHand("changes of all", x, changes);
        DUE.is("all", x.save(true), 5 + 12 * 9);
        isAtHand("all", x, want);
    }

    private static void oneEntry() {
        DUE.sentence("a count (the place)");
        for (int i : new int[] {0, 1, 98, 99}) {
            FormatFiles x = new FormatFiles();
            x.put(11, i, 1);
            x.save(true);
            isAtHand("one entry at " + i, x, HandFile.whole(1, 1).section(11, 0, 1, i, 2));
        }
    }

    private static void risingPlaces() {
        DUE.sentence("by rising places, a count (.. or how much it is above the one before, less 1)");
        FormatFiles x = new FormatFiles();
        x.put(7, 99, 1);
        x.put(7, 0, -1);
        x.save(true);
        isAtHand("the first and the last place", x, HandFile.whole(1, 1).section(7, 0, 2, 0, 1, 98, 2));
        x.put(7, 1, 0);
        x.put(7, 50, 3);
        x.put(7, 98, 4);
        x.take(7, 50);
        x.save(true);
        isAtHand("places next to each other", x,
                HandFile.whole(1, 1).section(7, 0, 4, 0, 1, 0, 0, 96, 8, 0, 2));
    }

    private static void fullPart() {
        DUE.sentence("a count, how many entries (100)");
        FormatFiles x = new FormatFiles();
        HandFile want = HandFile.whole(1, 1).begin().bytes(11, 0, 100);
        for (int i = 0; i < 100; i++) {
            x.put(11, i, i);
            want.count(0).count(2 * i);
        }
        DUE.is("save of a full part", x.save(true), 5 + 3 + 100 + 64 + 2 * 36 + 4);
        isAtHand("a full part", x, want.end());
    }

    private static void rowsOfNone() {
        DUE.sentence("WRITTEN are .. in a file of changes those that are changed (with all their entries, perhaps none)");
        FormatFiles x = new FormatFiles();
        x.put(3, 3, 3);
        x.put(4, 0, 4);
        x.put(4, 1, 5);
        x.save(true);
        int sum = HandFile.sum(HandFile.atHand(x), 0, x.count(2));
        x.take(3, 3);
        x.put(4, 1, 6);
        DUE.is("save", x.save(false), 9 + 7 + 11);
        isAtHand("one with none, one with all", x,
                HandFile.changes(1, sum, 2).section(3, 0, 0).section(4, 0, 2, 0, 8, 0, 12));
    }

    private static void isOrder(String what, FormatFiles x, int... order) {
        x.save(true);
        HandFile want = HandFile.whole(1, order.length);
        for (int p : order) {
            want.section(p, 0, 1, 0, 2 * p);
        }
        isAtHand(what, x, want);
    }

    private static FormatFiles withEntries(int... parts) {
        FormatFiles x = new FormatFiles();
        for (int p : parts) {
            x.put(p, 0, p);
        }
        return x;
    }

    private static void orderLeastFirst() {
        DUE.sentence("Sections stand so: again and again the least part of those to be written that are not yet");
        isOrder("put in another order", withEntries(11, 3, 0, 7), 0, 3, 7, 11);
    }

    private static void orderByNeeds() {
        DUE.sentence("and none of the others that are not yet, either, does it need");
        FormatFiles x = withEntries(0, 1, 2, 3, 4);
        x.needs(0, 3, true);
        x.needs(1, 4, true);
        x.needs(3, 2, true);
        isOrder("parts behind those that they need", x, 2, 3, 0, 4, 1);
        x.needs(0, 3, false);
        isOrder("one that needs no more", x, 0, 2, 3, 4, 1);
        x.needs(0, 1, true);
        x.needs(0, 2, true);
        isOrder("one that needs two", x, 2, 3, 4, 1, 0);
    }

    private static void orderOfLongestChain() {
        DUE.sentence("none of the others that are not yet, either, does it need (a chain of all)");
        FormatFiles x = withEntries(0, 1, 2, 3, 4, 5, 6, 7, 8, 9, 10, 11);
        for (int p = 0; p < 11; p++) {
            x.needs(p, p + 1, true);
        }
        isOrder("each needs the one above", x, 11, 10, 9, 8, 7, 6, 5, 4, 3, 2, 1, 0);
    }

    private static void orderWithoutOthers() {
        DUE.sentence("the least part of those to be written (a part that is not written holds up none)");
        FormatFiles x = withEntries(0, 2);
        x.needs(0, 1, true);
        x.needs(1, 2, true);
        isOrder("needed over a part without entries", x, 0, 2);
        x.put(1, 0, 1);
        isOrder("when it has entries", x, 2, 1, 0);
    }

    private static void orderOfChanges() {
        DUE.sentence("the least part of those to be written (of changes)");
        FormatFiles x = withEntries(1, 2, 3);
        x.needs(1, 2, true);
        x.needs(1, 3, true);
        x.save(true);
        int sum = HandFile.sum(HandFile.atHand(x), 0, x.count(2));
        x.put(1, 0, 8);
        x.take(3, 0);
        x.save(false);
        isAtHand("what is needed stands first, without entries, too", x,
                HandFile.changes(1, sum, 2).section(3, 0, 0).section(1, 0, 1, 0, 16));
    }

    private static void alike() {
        DUE.sentence("A section has the byte 1, if an earlier one of this file has the same rows");
        FormatFiles x = new FormatFiles();
        x.put(0, 3, 7);
        x.put(11, 3, 7);
        DUE.is("save", x.save(true), 5 + 9 + 7);
        isAtHand("two that are alike", x, HandFile.whole(1, 2).section(0, 0, 1, 3, 14).section(11, 1, 0));
        x.put(11, 4, 7);
        x.save(true);
        isAtHand("one with an entry more", x,
                HandFile.whole(1, 2).section(0, 0, 1, 3, 14).section(11, 0, 2, 3, 14, 0, 14));
        x.put(0, 4, 8);
        x.save(true);
        isAtHand("two with another entry", x,
                HandFile.whole(1, 2).section(0, 0, 2, 3, 14, 0, 16).section(11, 0, 2, 3, 14, 0, 14));
    }

    private static void alikeFirstWithOwnRows() {
        DUE.sentence("with the first such one that has the byte 0");
        FormatFiles x = new FormatFiles();
        for (int p = 0; p < 12; p++) {
            x.put(p, 3, p % 2);
        }
        x.save(true);
        HandFile want = HandFile.whole(1, 12).section(0, 0, 1, 3, 0).section(1, 0, 1, 3, 2);
        for (int p = 2; p < 12; p++) {
            want.section(p, 1, p % 2);
        }
        isAtHand("two rows for twelve", x, want);
    }

    private static void alikeInOrderOfFile() {
        DUE.sentence("a byte: the section (from 0 on) of this file whose rows are its own, too");
        FormatFiles x = new FormatFiles();
        for (int p = 3; p < 8; p++) {
            x.put(p, 3, p % 2);
        }
        x.needs(3, 6, true);
        x.save(true);
        isAtHand("the section, not the part", x, HandFile.whole(1, 5).section(4, 0, 1, 3, 0)
                .section(5, 0, 1, 3, 2).section(6, 1, 0).section(3, 1, 1).section(7, 1, 1));
    }

    private static void alikeWithoutEntries() {
        DUE.sentence("the same rows (of none)");
        FormatFiles x = new FormatFiles();
        x.save(true);
        for (int p = 4; p < 7; p++) {
            x.put(p, 0, 1);
            x.take(p, 0);
        }
        x.save(false);
        isAtHand("parts without entries are alike", x, HandFile.changes(1, HandFile.whole(1, 0).sum(), 3)
                .section(4, 0, 0).section(5, 1, 0).section(6, 1, 0));
    }

    private static void writtenWhole() {
        DUE.sentence("WRITTEN are in a whole file the parts with entries");
        FormatFiles x = new FormatFiles();
        x.put(2, 0, 0);
        x.put(5, 5, 5);
        x.save(true);
        x.take(5, 5);
        x.put(9, 9, 9);
        x.save(true);
        isAtHand("not those that had some", x, HandFile.whole(1, 2).section(2, 0, 1, 0, 0).section(9, 0, 1, 9, 18));
        x.save(true);
        isAtHand("whether changed or not", x, HandFile.whole(1, 2).section(2, 0, 1, 0, 0).section(9, 0, 1, 9, 18));
    }

    private static void writtenChanges() {
        DUE.sentence("in a file of changes those that are changed");
        FormatFiles x = new FormatFiles();
        x.put(1, 1, 1);
        x.put(2, 2, 2);
        x.put(3, 3, 3);
        x.save(true);
        int sum = HandFile.sum(HandFile.atHand(x), 0, x.count(2));
        x.put(1, 1, 1);
        x.put(2, 3, -2);
        x.put(3, 3, 4);
        x.put(3, 3, 3);
        x.save(false);
        isAtHand("the one put as it was there not, the one that is as it was", x,
                HandFile.changes(1, sum, 2).section(2, 0, 2, 2, 4, 0, 3).section(3, 0, 1, 3, 6));
    }

    private static void howManyBytes() {
        DUE.sentence("9: A file is saved, whole (true), or of changes .. how many bytes");
        FormatFiles x = new FormatFiles();
        DUE.is("whole, of none", x.save(true), 5);
        DUE.is("at hand", x.count(2), 5);
        DUE.is("changes, of none", x.save(false), 9);
        DUE.is("at hand", x.count(2), 9);
        x.put(0, 0, 64);
        DUE.is("changes, of one", x.save(false), 9 + 10);
        DUE.is("whole, of one", x.save(true), 5 + 10);
        DUE.is("at hand", x.count(2), 15);
    }

    private static void inPlaceOfBytes() {
        DUE.sentence("9: in place of the bytes at hand");
        FormatFiles x = new FormatFiles();
        for (int k = 0; k < 20; k++) {
            x.add((byte) 9);
        }
        DUE.is("fewer than before", x.save(true), 5);
        isAtHand("none before or behind", x, HandFile.whole(1, 0));
        x.cut(0);
        DUE.is("more than before", x.save(true), 5);
        isAtHand("none before or behind", x, HandFile.whole(1, 0));
    }

    private static void changesWithoutBase() {
        DUE.sentence("9: -3 of changes without a base");
        FormatFiles x = new FormatFiles();
        x.add((byte) 5);
        x.put(0, 0, 0);
        DUE.is("without a base", x.save(false), -3);
        DUE.is("bytes at hand stay", x.count(2), 1);
        DUE.is("the byte at hand", x.octet(0), 5);
        x.save(true);
        DUE.is("with a base", x.save(false), 9);
    }

    private static void changesOfLatestBase() {
        DUE.sentence("THE BASE is the whole file that was saved .. latest");
        FormatFiles x = new FormatFiles();
        x.save(true);
        x.put(0, 0, 0);
        x.save(true);
        int sum = HandFile.sum(HandFile.atHand(x), 0, x.count(2));
        x.poke(3, 1);
        x.cut(4);
        x.save(false);
        isAtHand("as it was saved, whatever has become of the bytes", x, HandFile.changes(1, sum, 0));
    }

    private static void noBaseByChanges() {
        DUE.sentence("9: (A file of changes is no base)");
        FormatFiles x = new FormatFiles();
        x.save(true);
        x.put(1, 1, 1);
        HandFile want = HandFile.changes(1, HandFile.whole(1, 0).sum(), 1).section(1, 0, 1, 1, 2);
        x.save(false);
        isAtHand("changes", x, want);
        x.save(false);
        isAtHand("changes again", x, want);
    }

    private static void changedStay() {
        DUE.sentence("9: (.. and changed parts stay so.)");
        FormatFiles x = new FormatFiles();
        x.save(true);
        x.put(1, 1, 1);
        x.put(2, 2, 2);
        DUE.is("changes", x.save(false), 9 + 9 + 9);
        DUE.is("changed parts", x.count(4), 2);
        DUE.is("changes again", x.save(false), 9 + 9 + 9);
        x.save(true);
        DUE.is("till there is another base", x.count(4), 0);
    }

    private static void mostBytes() {
        DUE.sentence("THE BYTES AT HAND, 8000 at most");
        FormatFiles x = new FormatFiles();
        DUE.is("save of 8000 bytes", fill(x), 8000);
        DUE.is("bytes at hand", x.count(2), 8000);
        DUE.is("it is the base then", x.save(false), 9);
    }

    private static void tooManyBytes() {
        DUE.sentence("9: -4 it would have more than 8000 (all stays as it was)");
        FormatFiles x = new FormatFiles();
        fill(x);
        byte last = x.octet(7999);
        x.put(7, 21, ONE_MORE);
        DUE.is("save of 8001 bytes", x.save(true), -4);
        DUE.is("bytes at hand", x.count(2), 8000);
        DUE.is("the first of them", x.octet(0), 70);
        DUE.is("the last of them", x.octet(7999), last);
        DUE.is("the part that is changed", x.count(4), 1);
        DUE.is("the entry", x.get(7, 21), ONE_MORE);
        DUE.is("changes", x.save(false), 9 + 7 + 22 + 21 * 10 + 8);
        FormatFiles y = new FormatFiles();
        fill(y);
        y.save(false);
        DUE.is("the base is the one before", sumTold(x), sumTold(y));
        DUE.is("load of the changes", x.load(), 1);
        x.put(7, 21, ONE_LESS);
        DUE.is("save of 8000 bytes again", x.save(true), 8000);
    }

    private static void mostBytesOfChanges() {
        DUE.sentence("THE BYTES AT HAND, 8000 at most (changes)");
        FormatFiles x = new FormatFiles();
        DUE.is("changes of 8000 bytes", fillChanges(x), 8000);
        DUE.is("bytes at hand", x.count(2), 8000);
    }

    private static void tooManyBytesOfChanges() {
        DUE.sentence("9: -4 it would have more than 8000 (changes)");
        FormatFiles x = new FormatFiles();
        fillChanges(x);
        x.put(7, 21, 1L << 20);
        DUE.is("changes of 8001 bytes", x.save(false), -4);
        DUE.is("bytes at hand", x.count(2), 8000);
        DUE.is("they are the changes before", x.octet(2), 1);
        DUE.is("changed parts", x.count(4), 8);
        DUE.is("a whole file has four bytes less", x.save(true), 7997);
    }

    private static void withoutBaseAndTooManyBytes() {
        DUE.sentence("REFUSALS answer, the first that fits: .. -3 not in this state, -4 no room");
        FormatFiles x = new FormatFiles();
        fillWithoutBase(x);
        DUE.is("entries", x.count(5), 800);
        DUE.is("changed parts", x.count(4), 8);
        int atHand = x.count(2);
        DUE.is("a whole file", x.save(true), -4);
        DUE.is("changes without a base", x.save(false), -3);
        DUE.is("bytes at hand", x.count(2), atHand);
        for (int i = 0; i < 100; i++) {
            x.take(0, i);
        }
        DUE.is("changes without a base that have room", x.save(false), -3);
        DUE.is("a whole file that has room", x.save(true), 5 + 7 * (7 + 99 * 11 + 2));
    }

    /** Fills parts 0 to 7, each in its own way, by loading what has more sections than bytes, which is no base. */
    private static void fillWithoutBase(FormatFiles x) {
        HandFile file = tenEntries(0).into(x);
        x.load();
        for (int first = 10; first < 100; first += 10) {
            HandFile next = tenEntries(first);
            turnInto(x, file.toBytes(), next.toBytes());
            x.load();
            file = next;
        }
        for (int p = 1; p < 8; p++) {
            x.put(p, 0, p);
        }
    }

    /** Parts 0 to 7 are alike, with entries at ten places from the first on; a ninth section is cut off. */
    private static HandFile tenEntries(int first) {
        HandFile file = HandFile.whole(1, 9).begin().bytes(0, 0, 10);
        for (int e = 0; e < 10; e++) {
            file.count(e == 0 ? first : 0).count(-1);
        }
        file.end();
        for (int p = 1; p < 8; p++) {
            file.section(p, 1, 0);
        }
        return file;
    }

    private static void turnInto(FormatFiles x, byte[] atHand, byte[] want) {
        for (int i = 0; i < want.length; i++) {
            if (atHand[i] != want[i]) {
                x.poke(i, (atHand[i] ^ want[i]) & 255);
            }
        }
    }

    private static int sumTold(FormatFiles x) {
        int s = 0;
        for (int i = 0; i < 4; i++) {
            s |= (x.octet(4 + i) & 255) << 8 * i;
        }
        return s;
    }

    /** Saves a whole file of just 8000 bytes: seven full parts, and a last one with 22 entries. */
    static int fill(FormatFiles x) {
        fillPart0(x);
        x.save(true);
        fillOthers(x, 4);
        x.put(7, 21, ONE_LESS);
        return x.save(true);
    }

    /** Saves changes of just 8000 bytes, of the file without sections: the same with four bytes less in the last. */
    private static int fillChanges(FormatFiles x) {
        x.save(true);
        fillPart0(x);
        x.save(false);
        fillOthers(x, 8);
        x.put(7, 21, (1L << 20) - 1);
        return x.save(false);
    }

    private static void fillPart0(FormatFiles x) {
        for (int i = 0; i < 100; i++) {
            x.put(0, i, Long.MAX_VALUE - i);
        }
    }

    /** Parts 1 to 6 get the rows of part 0 by loading, since a put for each entry would be too many calls. */
    private static void fillOthers(FormatFiles x, int sectionsAt) {
        x.poke(sectionsAt, 1 ^ 7);
        for (int p = 1; p < 7; p++) {
            for (byte b : new HandFile().section(p, 1, 0).toBytes()) {
                x.add(b);
            }
        }
        x.load();
        for (int p = 1; p < 7; p++) {
            x.put(p, p, Long.MIN_VALUE + p);
        }
        for (int i = 0; i < 21; i++) {
            x.put(7, i, Long.MIN_VALUE);
        }
    }
}
