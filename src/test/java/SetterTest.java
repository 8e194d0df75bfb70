import java.util.NoSuchElementException;

/** Promises 1 to 8 and 17, sentence by sentence: the setter. */
public final class SetterTest {
    private static final int[] NO_PART = {-1, 12, 256, Integer.MIN_VALUE, Integer.MAX_VALUE};
    private static final int[] NO_PLACE = {-1, 100, 256, Integer.MIN_VALUE, Integer.MAX_VALUE};
    private static final int[] EDGES_OF_PARTS = {0, 11};
    private static final int[] EDGES_OF_PLACES = {0, 99};
    private static final Due DUE = new Due();

    public static void main(String[] args) {
        newHasNoEntries();
        newHasNoNeeds();
        newHasNoFile();
        newHasNoBytes();
        newSettings();
        newTellsNothing();
        putCounts();
        putInPlace();
        putAtEdges();
        putInFullPart();
        putNoPart();
        putNoPlace();
        putBusy();
        putFirstThatFits();
        take();
        takeNone();
        takeTheLast();
        takeRefused();
        takeFirstThatFits();
        getAtEdges();
        getNone();
        getNoPart();
        getNoPlace();
        needs();
        needsWasSo();
        needsNoPart();
        needsItself();
        needsItselfOverOthers();
        needsItselfOverAll();
        needsFirstThatFits();
        version();
        versionOutside();
        mode();
        modeOutside();
        busy();
        busyHoldsUpNothingElse();
        same();
        sameWithoutEntries();
        sameAtEdges();
        sameNoPart();
        DUE.end();
    }

    private static void isNone(String what, FormatFiles x, int part, int i) {
        DUE.isThrown(what, () -> x.get(part, i), NoSuchElementException.class);
    }

    private static void newHasNoEntries() {
        DUE.sentence("1: A setter without entries");
        FormatFiles x = new FormatFiles();
        DUE.is("parts with entries", x.count(3), 0);
        DUE.is("parts that were changed at all", x.count(4), 0);
        DUE.is("entries", x.count(5), 0);
        for (int p = 0; p < 12; p++) {
            isNone("get of part " + p, x, p, 0);
            isNone("get of part " + p, x, p, 99);
            DUE.is("take of part " + p, x.take(p, 0), 0);
        }
        x.put(0, 0, 1);
        DUE.is("entries of another new object", new FormatFiles().count(5), 0);
    }

    private static void newHasNoNeeds() {
        DUE.sentence("1: A setter without entries, needs");
        FormatFiles x = new FormatFiles();
        for (int p = 0; p < 12; p++) {
            for (int other = 0; other < 12; other++) {
                DUE.is("needs(" + p + ", " + other + ", false)", x.needs(p, other, false), 0);
            }
        }
    }

    private static void newHasNoFile() {
        DUE.sentence("1: A setter without entries, needs, file");
        FormatFiles x = new FormatFiles();
        DUE.is("save of changes", x.save(false), -3);
        HandFile.changes(1, 0, 0).into(x);
        DUE.is("load of changes of the sum 0", x.load(), -13);
    }

    private static void newHasNoBytes() {
        DUE.sentence("1: no bytes at hand");
        FormatFiles x = new FormatFiles();
        DUE.is("bytes at hand", x.count(2), 0);
        DUE.isThrown("octet(0)", () -> x.octet(0), ArrayIndexOutOfBoundsException.class);
        DUE.is("poke(0, 1)", x.poke(0, 1), -1);
        DUE.is("cut(1)", x.cut(1), -2);
        DUE.is("load", x.load(), 0);
    }

    private static void newSettings() {
        DUE.sentence("The setter has a VERSION, 1 .. 200 (1 at first), a MODE, 0 or 1 (0 at first)");
        FormatFiles x = new FormatFiles();
        DUE.is("version at first", x.version(1), 1);
        DUE.is("mode at first", x.mode(0), 0);
        DUE.is("busy at first", x.busy(false), 0);
    }

    private static void newTellsNothing() {
        DUE.sentence("15: Of the latest load() .. -1 when there is none such");
        FormatFiles x = new FormatFiles();
        DUE.is("sections that are told", x.count(0), 0);
        DUE.is("conflicts in them", x.count(1), 0);
        for (int what = 0; what < 3; what++) {
            DUE.is("told(0, " + what + ")", x.told(0, what), -1);
        }
    }

    private static void putCounts() {
        DUE.sentence("2: An entry of a part is put .. how many entries the part has");
        FormatFiles x = new FormatFiles();
        DUE.is("the first", x.put(4, 7, 5), 1);
        DUE.is("the second", x.put(4, 6, 5), 2);
        DUE.is("the first of another part", x.put(5, 6, 5), 1);
        DUE.is("the third", x.put(4, 8, 0), 3);
        DUE.is("what was put", x.get(4, 7), 5);
        x.take(4, 6);
        DUE.is("put behind a take", x.put(4, 9, 1), 3);
    }

    private static void putInPlace() {
        DUE.sentence("2: (in place of one that is there)");
        FormatFiles x = new FormatFiles();
        x.put(4, 7, 5);
        DUE.is("another one", x.put(4, 7, 6), 1);
        DUE.is("it is there", x.get(4, 7), 6);
        DUE.is("the same", x.put(4, 7, 6), 1);
        DUE.is("0 in place of it", x.put(4, 7, 0), 1);
        DUE.is("0 is there", x.get(4, 7), 0);
    }

    private static void putAtEdges() {
        DUE.sentence("A SETTER has PARTS 0 .. 11; each may have an ENTRY at places 0 .. 99: a long");
        for (long v : new long[] {Long.MIN_VALUE, -1, 0, Long.MAX_VALUE}) {
            FormatFiles x = new FormatFiles();
            for (int p : EDGES_OF_PARTS) {
                DUE.is("the first place of part " + p, x.put(p, 0, v), 1);
                DUE.is("the last place of part " + p, x.put(p, 99, v), 2);
                DUE.is("the entry at the first place", x.get(p, 0), v);
                DUE.is("the entry at the last place", x.get(p, 99), v);
            }
            DUE.is("parts with entries", x.count(3), 2);
        }
    }

    private static void putInFullPart() {
        DUE.sentence("2: how many entries the part has (all 100 places)");
        FormatFiles x = new FormatFiles();
        for (int i = 99; i >= 0; i--) {
            DUE.is("put at " + i, x.put(11, i, -i), 100 - i);
        }
        DUE.is("put in a full part", x.put(11, 50, 7), 100);
        DUE.is("put behind the last place of it", x.put(11, 100, 7), -2);
        for (int i : new int[] {0, 49, 51, 99}) {
            DUE.is("the entry at " + i, x.get(11, i), -i);
        }
    }

    private static void putNoPart() {
        DUE.sentence("2: -1 no such part");
        FormatFiles x = new FormatFiles();
        for (int p : NO_PART) {
            DUE.is("put(" + p + ", 0, 1)", x.put(p, 0, 1), -1);
        }
        DUE.is("entries", x.count(5), 0);
    }

    private static void putNoPlace() {
        DUE.sentence("2: -2 no such place");
        FormatFiles x = new FormatFiles();
        for (int i : NO_PLACE) {
            for (int p : EDGES_OF_PARTS) {
                DUE.is("put(" + p + ", " + i + ", 1)", x.put(p, i, 1), -2);
            }
        }
        DUE.is("entries", x.count(5), 0);
    }

    private static void putBusy() {
        DUE.sentence("2: -3 busy");
        FormatFiles x = new FormatFiles();
        x.put(0, 0, 6);
        x.busy(true);
        DUE.is("another one", x.put(0, 0, 7), -3);
        DUE.is("the same", x.put(0, 0, 6), -3);
        DUE.is("a new one", x.put(0, 1, 7), -3);
        DUE.is("the entry", x.get(0, 0), 6);
        x.busy(false);
        DUE.is("no more busy", x.put(0, 1, 7), 2);
    }

    private static void putFirstThatFits() {
        DUE.sentence("REFUSALS answer, the first that fits (put)");
        FormatFiles x = new FormatFiles();
        DUE.is("no part, no place", x.put(12, 100, 1), -1);
        x.busy(true);
        DUE.is("no part, no place, busy", x.put(-1, -1, 1), -1);
        DUE.is("no part, busy", x.put(12, 0, 1), -1);
        DUE.is("no place, busy", x.put(0, 100, 1), -2);
    }

    private static void take() {
        DUE.sentence("3: An entry is taken away: 1");
        FormatFiles x = new FormatFiles();
        for (int p : EDGES_OF_PARTS) {
            for (int i : EDGES_OF_PLACES) {
                x.put(p, i, 0);
                DUE.is("take(" + p + ", " + i + ")", x.take(p, i), 1);
                isNone("get of what was taken", x, p, i);
            }
        }
        x.put(3, 3, 3);
        x.put(3, 4, 4);
        x.take(3, 3);
        DUE.is("the other one stays", x.get(3, 4), 4);
    }

    private static void takeNone() {
        DUE.sentence("3: 0 when there is none");
        FormatFiles x = new FormatFiles();
        x.put(0, 1, 5);
        DUE.is("where none was", x.take(0, 0), 0);
        DUE.is("of a part without entries", x.take(11, 99), 0);
        x.take(0, 1);
        DUE.is("where it was taken", x.take(0, 1), 0);
    }

    private static void takeTheLast() {
        DUE.sentence("3: An entry is taken away (the last of a part)");
        FormatFiles x = new FormatFiles();
        x.put(6, 6, 6);
        x.take(6, 6);
        DUE.is("parts with entries", x.count(3), 0);
        DUE.is("entries", x.count(5), 0);
        DUE.is("put where it was", x.put(6, 6, 7), 1);
        DUE.is("what is there then", x.get(6, 6), 7);
    }

    private static void takeRefused() {
        DUE.sentence("3: -1, -2, -3 as put()");
        FormatFiles x = new FormatFiles();
        x.put(0, 99, 1);
        for (int p : NO_PART) {
            DUE.is("take(" + p + ", 0)", x.take(p, 0), -1);
        }
        for (int i : NO_PLACE) {
            DUE.is("take(0, " + i + ")", x.take(0, i), -2);
        }
        x.busy(true);
        DUE.is("busy", x.take(0, 99), -3);
        DUE.is("none there, busy", x.take(0, 0), -3);
        DUE.is("the entry", x.get(0, 99), 1);
        x.busy(false);
        DUE.is("no more busy", x.take(0, 99), 1);
    }

    private static void takeFirstThatFits() {
        DUE.sentence("REFUSALS answer, the first that fits (take)");
        FormatFiles x = new FormatFiles();
        DUE.is("no part, no place", x.take(12, 100), -1);
        x.busy(true);
        DUE.is("no part, no place, busy", x.take(-1, -1), -1);
        DUE.is("no part, busy", x.take(12, 0), -1);
        DUE.is("no place, busy", x.take(0, 100), -2);
    }

    private static void getAtEdges() {
        DUE.sentence("4: An entry");
        FormatFiles x = new FormatFiles();
        x.put(0, 0, Long.MAX_VALUE);
        x.put(11, 99, Long.MIN_VALUE);
        x.put(11, 0, -1);
        x.busy(true);
        DUE.is("get(0, 0)", x.get(0, 0), Long.MAX_VALUE);
        DUE.is("get(11, 99)", x.get(11, 99), Long.MIN_VALUE);
        DUE.is("get(11, 0)", x.get(11, 0), -1);
    }

    private static void getNone() {
        DUE.sentence("4: NoSuchElementException: there is none");
        FormatFiles x = new FormatFiles();
        x.put(3, 50, 1);
        isNone("the place below", x, 3, 49);
        isNone("the place above", x, 3, 51);
        isNone("the part below", x, 2, 50);
        isNone("the part above", x, 4, 50);
    }

    private static void getNoPart() {
        DUE.sentence("4: NoSuchElementException: .. no such part");
        FormatFiles x = new FormatFiles();
        x.put(0, 0, 1);
        x.put(11, 0, 1);
        for (int p : NO_PART) {
            isNone("get(" + p + ", 0)", x, p, 0);
            isNone("get(" + p + ", 100)", x, p, 100);
        }
    }

    private static void getNoPlace() {
        DUE.sentence("4: NoSuchElementException: .. no such part, place");
        FormatFiles x = new FormatFiles();
        x.put(0, 0, 1);
        x.put(0, 99, 1);
        x.put(1, 0, 1);
        for (int i : NO_PLACE) {
            isNone("get(0, " + i + ")", x, 0, i);
        }
    }

    private static void needs() {
        DUE.sentence("5: A part needs another one from now on (true), or not: 1");
        FormatFiles x = new FormatFiles();
        DUE.is("the first needs the last", x.needs(0, 11, true), 1);
        DUE.is("no more", x.needs(0, 11, false), 1);
        DUE.is("the last needs the first", x.needs(11, 0, true), 1);
        DUE.is("it needs two", x.needs(11, 1, true), 1);
        DUE.is("two need one", x.needs(10, 1, true), 1);
        DUE.is("no more of the two", x.needs(11, 1, false), 1);
        DUE.is("the other one is needed still", x.needs(11, 0, false), 1);
    }

    private static void needsWasSo() {
        DUE.sentence("5: 0 when it was so");
        FormatFiles x = new FormatFiles();
        DUE.is("not, at first", x.needs(0, 11, false), 0);
        DUE.is("itself not", x.needs(4, 4, false), 0);
        x.needs(0, 11, true);
        DUE.is("does already", x.needs(0, 11, true), 0);
        DUE.is("the other way round not", x.needs(11, 0, false), 0);
        x.needs(0, 11, false);
        DUE.is("not any more", x.needs(0, 11, false), 0);
    }

    private static void needsNoPart() {
        DUE.sentence("5: -1 no such part");
        FormatFiles x = new FormatFiles();
        for (int p : NO_PART) {
            DUE.is("needs(" + p + ", 0, true)", x.needs(p, 0, true), -1);
            DUE.is("needs(" + p + ", 11, false)", x.needs(p, 11, false), -1);
            DUE.is("needs(0, " + p + ", true)", x.needs(0, p, true), -1);
            DUE.is("needs(11, " + p + ", false)", x.needs(11, p, false), -1);
        }
    }

    private static void needsItself() {
        DUE.sentence("5: -3 it would come to need itself");
        FormatFiles x = new FormatFiles();
        for (int p = 0; p < 12; p++) {
            DUE.is("needs(" + p + ", " + p + ", true)", x.needs(p, p, true), -3);
            DUE.is("it does not then", x.needs(p, p, false), 0);
        }
        x.needs(2, 9, true);
        DUE.is("each the other", x.needs(9, 2, true), -3);
        DUE.is("it does not then", x.needs(9, 2, false), 0);
        DUE.is("the first does still", x.needs(2, 9, false), 1);
        DUE.is("the other way round, when it does no more", x.needs(9, 2, true), 1);
    }

    private static void needsItselfOverOthers() {
        DUE.sentence("it never comes to need itself over others");
        FormatFiles x = new FormatFiles();
        x.needs(5, 3, true);
        x.needs(3, 8, true);
        DUE.is("over one", x.needs(8, 5, true), -3);
        DUE.is("along the chain", x.needs(5, 8, true), 1);
        x.needs(3, 8, false);
        DUE.is("over none", x.needs(8, 5, true), -3);
        x.needs(5, 8, false);
        DUE.is("with the chain broken", x.needs(8, 5, true), 1);
        DUE.is("over one, at the other end", x.needs(3, 8, true), -3);
    }

    private static void needsItselfOverAll() {
        DUE.sentence("it never comes to need itself over others (all twelve)");
        int[][] orders = {{11, 10, 9, 8, 7, 6, 5, 4, 3, 2, 1, 0}, {0, 1, 2, 3, 4, 5, 6, 7, 8, 9, 10, 11},
                {6, 0, 7, 1, 8, 2, 9, 3, 10, 4, 11, 5}};
        for (int[] order : orders) {
            FormatFiles x = new FormatFiles();
            for (int k = 0; k < 11; k++) {
                DUE.is("a chain", x.needs(order[k], order[k + 1], true), 1);
            }
            DUE.is("its end the beginning", x.needs(order[11], order[0], true), -3);
            DUE.is("its beginning the end", x.needs(order[0], order[11], true), 1);
        }
    }

    private static void needsFirstThatFits() {
        DUE.sentence("REFUSALS answer, the first that fits (needs)");
        FormatFiles x = new FormatFiles();
        for (int p : NO_PART) {
            DUE.is("no part needs itself", x.needs(p, p, true), -1);
        }
        x.busy(true);
        DUE.is("busy is no refusal", x.needs(1, 2, true), 1);
    }

    private static void version() {
        DUE.sentence("6: The setter's version: what it was");
        FormatFiles x = new FormatFiles();
        DUE.is("the greatest", x.version(200), 1);
        DUE.is("the least", x.version(1), 200);
        DUE.is("another one", x.version(7), 1);
        DUE.is("the same again", x.version(7), 7);
    }

    private static void versionOutside() {
        DUE.sentence("6: -2");
        FormatFiles x = new FormatFiles();
        x.version(9);
        for (int v : new int[] {0, -1, 201, 256, 257, Integer.MIN_VALUE, Integer.MAX_VALUE}) {
            DUE.is("version(" + v + ")", x.version(v), -2);
        }
        DUE.is("it stays", x.version(9), 9);
    }

    private static void mode() {
        DUE.sentence("7: The mode: what it was");
        FormatFiles x = new FormatFiles();
        DUE.is("mode(1)", x.mode(1), 0);
        DUE.is("mode(1) again", x.mode(1), 1);
        DUE.is("mode(0)", x.mode(0), 1);
        DUE.is("mode(0) again", x.mode(0), 0);
    }

    private static void modeOutside() {
        DUE.sentence("7: -2");
        FormatFiles x = new FormatFiles();
        x.mode(1);
        for (int m : new int[] {-1, 2, 256, 257, Integer.MIN_VALUE, Integer.MAX_VALUE}) {
            DUE.is("mode(" + m + ")", x.mode(m), -2);
        }
        DUE.is("it stays", x.mode(1), 1);
    }

    private static void busy() {
        DUE.sentence("8: Busy from now on, or not: 1; 0 when it was so");
        FormatFiles x = new FormatFiles();
        DUE.is("not, at first", x.busy(false), 0);
        DUE.is("busy", x.busy(true), 1);
        DUE.is("busy again", x.busy(true), 0);
        DUE.is("not any more", x.busy(false), 1);
        DUE.is("not again", x.busy(false), 0);
    }

    private static void busyHoldsUpNothingElse() {
        DUE.sentence("-3 busy (of put, take and load alone)");
        FormatFiles x = new FormatFiles();
        x.put(0, 0, 1);
        x.busy(true);
        DUE.is("version", x.version(2), 1);
        DUE.is("mode", x.mode(1), 0);
        DUE.is("save", x.save(true), 14);
        DUE.is("save of changes", x.save(false), 9);
        DUE.is("add", x.add((byte) 1), 10);
        DUE.is("poke", x.poke(9, 2), 3);
        DUE.is("octet", x.octet(9), 3);
        DUE.is("cut", x.cut(9), 9);
        DUE.is("told", x.told(0, 0), -1);
        DUE.is("count", x.count(5), 1);
        DUE.is("same", x.same(0, 0), true);
    }

    private static void same() {
        DUE.sentence("17: Whether two parts have the same entries at the same places");
        FormatFiles x = new FormatFiles();
        x.put(0, 1, 5);
        DUE.is("one has an entry", x.same(0, 1), false);
        DUE.is("the other has an entry", x.same(1, 0), false);
        x.put(1, 2, 5);
        DUE.is("the same entry at another place", x.same(0, 1), false);
        x.take(1, 2);
        x.put(1, 1, 6);
        DUE.is("another entry at the same place", x.same(0, 1), false);
        x.put(1, 1, 5);
        DUE.is("the same entry", x.same(0, 1), true);
        x.put(1, 2, 5);
        DUE.is("one entry more", x.same(0, 1), false);
        DUE.is("one entry less", x.same(1, 0), false);
        DUE.is("itself", x.same(1, 1), true);
    }

    private static void sameWithoutEntries() {
        DUE.sentence("17: the same entries (none)");
        FormatFiles x = new FormatFiles();
        DUE.is("at first", x.same(0, 11), true);
        DUE.is("itself", x.same(5, 5), true);
        x.put(0, 3, 1);
        x.take(0, 3);
        DUE.is("what was taken does not count", x.same(0, 11), true);
        x.put(0, 3, 0);
        DUE.is("an entry 0 is not none", x.same(0, 11), false);
    }

    private static void sameAtEdges() {
        DUE.sentence("17: the same entries at the same places (the first and the last one)");
        for (int i : EDGES_OF_PLACES) {
            FormatFiles x = new FormatFiles();
            x.put(0, i, 1L << 40);
            x.put(11, i, 1L << 41);
            DUE.is("another entry at " + i, x.same(0, 11), false);
            x.put(11, i, 1L << 40);
            DUE.is("the same entry at " + i, x.same(11, 0), true);
        }
    }

    private static void sameNoPart() {
        DUE.sentence("17: false when there is no such part");
        FormatFiles x = new FormatFiles();
        for (int p : NO_PART) {
            DUE.is("same(" + p + ", 0)", x.same(p, 0), false);
            DUE.is("same(11, " + p + ")", x.same(11, p), false);
            DUE.is("same(" + p + ", " + p + ")", x.same(p, p), false);
        }
    }
}
