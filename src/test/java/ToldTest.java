/** Promises 15 and 16, sentence by sentence: what is told of a loading, and counts. */
public final class ToldTest {
    private static final Due DUE = new Due();

    public static void main(String[] args) {
        part();
        reason();
        conflicts();
        noSection();
        noWhat();
        noneOfRefusedAsWhole();
        noneOfNoBytes();
        noneOfNoSections();
        latest();
        latestNotBusy();
        whateverComesThen();
        countSections();
        countConflicts();
        countBytes();
        countParts();
        countChanged();
        countEntries();
        countOthers();
        DUE.end();
    }

    /** Part 6 with two conflicts, part 7 refused, part 11 with one conflict, and one whose part is unknown. */
    private static FormatFiles loaded() {
        FormatFiles x = new FormatFiles();
        x.put(6, 0, 5);
        x.put(6, 99, 5);
        x.put(7, 0, 5);
        x.put(11, 0, 5);
        HandFile file = HandFile.whole(1, 4).section(6, 0, 3, 0, 2, 0, 2, 97, 2).begin().bytes(7, 0, 1, 0, 2)
                .wrongEnd().section(11, 1, 0).bytes(12);
        DUE.is("load", file.load(x), 2);
        return x;
    }

    private static void part() {
        DUE.sentence("15: section i: its part (what 0; -1 unknown)");
        FormatFiles x = loaded();
        int[] want = {6, 7, 11, -1};
        for (int s = 0; s < want.length; s++) {
            DUE.is("told(" + s + ", 0)", x.told(s, 0), want[s]);
        }
    }

    private static void reason() {
        DUE.sentence("15: the reason why it was refused (1; 0 loaded)");
        FormatFiles x = loaded();
        int[] want = {0, 6, 0, 5};
        for (int s = 0; s < want.length; s++) {
            DUE.is("told(" + s + ", 1)", x.told(s, 1), want[s]);
        }
    }

    private static void conflicts() {
        DUE.sentence("15: conflicts in it (2)");
        FormatFiles x = loaded();
        int[] want = {2, 0, 1, 0};
        for (int s = 0; s < want.length; s++) {
            DUE.is("told(" + s + ", 2)", x.told(s, 2), want[s]);
        }
        FormatFiles full = new FormatFiles();
        HandFile file = HandFile.whole(1, 1).begin().bytes(0, 0, 100);
        for (int i = 0; i < 100; i++) {
            full.put(0, i, 1);
            file.bytes(0, 0);
        }
        DUE.is("load of a full part", file.end().load(full), 1);
        DUE.is("a conflict at each place", full.told(0, 2), 100);
    }

    private static void noSection() {
        DUE.sentence("15: -1 when there is none such");
        FormatFiles x = loaded();
        for (int i : new int[] {-1, 4, 12, 254, 255, 256, Integer.MIN_VALUE, Integer.MAX_VALUE}) {
            for (int what = 0; what < 3; what++) {
                DUE.is("told(" + i + ", " + what + ")", x.told(i, what), -1);
            }
        }
    }

    private static void noWhat() {
        DUE.sentence("15: -1 when there is none such (what)");
        FormatFiles x = loaded();
        for (int what : new int[] {-1, 3, Integer.MIN_VALUE, Integer.MAX_VALUE}) {
            DUE.is("told(0, " + what + ")", x.told(0, what), -1);
            DUE.is("told(4, " + what + ")", x.told(4, what), -1);
        }
    }

    private static void isNothingTold(String what, FormatFiles x) {
        DUE.is(what + ": count(0)", x.count(0), 0);
        DUE.is(what + ": count(1)", x.count(1), 0);
        for (int k = 0; k < 3; k++) {
            DUE.is(what + ": told(0, " + k + ")", x.told(0, k), -1);
        }
    }

    private static void noneOfRefusedAsWhole() {
        DUE.sentence("15: (none are told when it was refused as a whole");
        FormatFiles x = loaded();
        x.poke(0, 1);
        DUE.is("by 1", x.load(), -11);
        isNothingTold("by 1", x);
        FormatFiles y = loaded();
        y.poke(3, 2);
        DUE.is("by 2", y.load(), -12);
        isNothingTold("by 2", y);
        FormatFiles z = loaded();
        z.poke(2, 1);
        DUE.is("by 3", z.load(), -13);
        isNothingTold("by 3", z);
    }

    private static void noneOfNoBytes() {
        DUE.sentence("15: (none are told when .. there were no bytes)");
        FormatFiles x = loaded();
        x.cut(0);
        DUE.is("load", x.load(), 0);
        isNothingTold("no bytes", x);
    }

    private static void noneOfNoSections() {
        DUE.sentence("15: -1 when there is none such (no sections)");
        FormatFiles x = loaded();
        DUE.is("load", HandFile.whole(1, 0).load(x), 0);
        isNothingTold("no sections", x);
    }

    private static void latest() {
        DUE.sentence("15: Of the latest load()");
        FormatFiles x = loaded();
        DUE.is("load", HandFile.whole(1, 2).begin().bytes(6, 0, 1, 0, 2).wrongEnd().section(3, 0, 0).load(x), 1);
        DUE.is("sections", x.count(0), 2);
        DUE.is("the part of the first", x.told(0, 0), 6);
        DUE.is("the reason of the first", x.told(0, 1), 6);
        DUE.is("conflicts of the first", x.told(0, 2), 0);
        DUE.is("the part of the second", x.told(1, 0), 3);
        DUE.is("the reason of the second", x.told(1, 1), 0);
        DUE.is("conflicts of the second", x.told(1, 2), 0);
        DUE.is("no third", x.told(2, 0), -1);
        DUE.is("conflicts", x.count(1), 0);
    }

    private static void latestNotBusy() {
        DUE.sentence("15: Of the latest load() that was not -3");
        FormatFiles x = loaded();
        x.cut(1);
        x.busy(true);
        DUE.is("busy", x.load(), -3);
        DUE.is("sections", x.count(0), 4);
        DUE.is("conflicts", x.count(1), 3);
        DUE.is("the part of the third", x.told(2, 0), 11);
        DUE.is("conflicts of the first", x.told(0, 2), 2);
    }

    private static void whateverComesThen() {
        DUE.sentence("15: Of the latest load() (whatever is done behind it)");
        FormatFiles x = loaded();
        x.mode(1);
        x.take(6, 0);
        x.put(6, 99, 1);
        x.save(true);
        x.save(false);
        x.cut(0);
        DUE.is("sections", x.count(0), 4);
        DUE.is("conflicts of the first", x.told(0, 2), 2);
        DUE.is("the reason of the last", x.told(3, 1), 5);
    }

    private static void countSections() {
        DUE.sentence("16: Sections that are told (what 0)");
        FormatFiles x = loaded();
        DUE.is("count(0)", x.count(0), 4);
        DUE.is("load", HandFile.whole(1, 255).load(x), 0);
        DUE.is("the most", x.count(0), 255);
    }

    private static void countConflicts() {
        DUE.sentence("16: conflicts in them (1)");
        FormatFiles x = loaded();
        DUE.is("count(1)", x.count(1), 3);
        x.load();
        DUE.is("again, in mode 0", x.count(1), 3);
        x.mode(1);
        x.load();
        DUE.is("again, in mode 1", x.count(1), 3);
        x.load();
        DUE.is("then they are solved", x.count(1), 0);
    }

    private static void countBytes() {
        DUE.sentence("16: bytes at hand (2)");
        FormatFiles x = new FormatFiles();
        x.save(true);
        DUE.is("saved", x.count(2), 5);
        x.add((byte) 1);
        DUE.is("added", x.count(2), 6);
        x.cut(2);
        DUE.is("cut", x.count(2), 2);
        x.cut(0);
        DUE.is("none", x.count(2), 0);
    }

    private static void countParts() {
        DUE.sentence("16: parts with entries (3)");
        FormatFiles x = new FormatFiles();
        for (int p = 0; p < 12; p++) {
            x.put(p, 99, 0);
            DUE.is("parts", x.count(3), p + 1);
        }
        x.put(0, 0, 0);
        DUE.is("two in one part", x.count(3), 12);
        x.take(0, 99);
        DUE.is("one of them taken", x.count(3), 12);
        x.take(0, 0);
        DUE.is("both taken", x.count(3), 11);
    }

    private static void countChanged() {
        DUE.sentence("16: parts that are changed (4)");
        FormatFiles x = new FormatFiles();
        x.save(true);
        for (int p = 0; p < 12; p++) {
            DUE.is("parts", x.count(4), p);
            x.put(p, 99, 0);
            x.take(p, 99);
        }
        DUE.is("all parts", x.count(4), 12);
    }

    private static void countEntries() {
        DUE.sentence("16: entries of all parts (5)");
        FormatFiles x = new FormatFiles();
        x.put(0, 0, 1);
        x.put(11, 99, 1);
        x.put(11, 98, 1);
        x.put(11, 98, 2);
        DUE.is("three", x.count(5), 3);
        x.take(11, 99);
        x.take(11, 99);
        DUE.is("two", x.count(5), 2);
        HandFile all = HandFile.whole(1, 12).section(0, 0, 2, 0, 2, 98, 2);
        for (int p = 1; p < 12; p++) {
            all.section(p, 1, 0);
        }
        DUE.is("load", all.load(x), 12);
        DUE.is("come by loading", x.count(5), 12 * 2 + 1);
    }

    private static void countOthers() {
        DUE.sentence("16: -2 for others");
        FormatFiles x = loaded();
        for (int what : new int[] {-1, 6, 7, 256, Integer.MIN_VALUE, Integer.MAX_VALUE}) {
            DUE.is("count(" + what + ")", x.count(what), -2);
        }
    }
}
