/** Promises 10 to 13, sentence by sentence: the bytes at hand. */
public final class OctetsTest {
    private static final Due DUE = new Due();

    public static void main(String[] args) {
        octet();
        octetNone();
        octetOfNothing();
        cut();
        cutToNothing();
        cutToAll();
        cutBelow();
        cutAbove();
        add();
        addToNothing();
        addToTheLast();
        addWithoutRoom();
        poke();
        pokeTwice();
        pokeNoByte();
        pokeNoMask();
        pokeFirstThatFits();
        whatIsAtHand();
        DUE.end();
    }

    private static void isNone(String what, FormatFiles x, int i) {
        DUE.isThrown(what, () -> x.octet(i), ArrayIndexOutOfBoundsException.class);
    }

    private static FormatFiles withBytes(int... row) {
        FormatFiles x = new FormatFiles();
        for (int b : row) {
            x.add((byte) b);
        }
        return x;
    }

    private static void octet() {
        DUE.sentence("10: A byte at hand");
        FormatFiles x = withBytes(-128, -1, 0, 1, 127);
        int[] want = {-128, -1, 0, 1, 127};
        for (int i = 0; i < want.length; i++) {
            DUE.is("octet(" + i + ")", x.octet(i), want[i]);
        }
    }

    private static void octetNone() {
        DUE.sentence("10: ArrayIndexOutOfBoundsException: there is none such");
        FormatFiles x = withBytes(1, 2, 3);
        DUE.is("the first", x.octet(0), 1);
        DUE.is("the last", x.octet(2), 3);
        for (int i : new int[] {-1, 3, 7999, 8000, 8001, Integer.MIN_VALUE, Integer.MAX_VALUE}) {
            isNone("octet(" + i + ")", x, i);
        }
        x.cut(2);
        isNone("one that was cut off", x, 2);
        FormatFiles full = new FormatFiles();
        SaveTest.fill(full);
        DUE.is("the first of 8000", full.octet(0), 70);
        isNone("octet(8000) of 8000", full, 8000);
    }

    private static void octetOfNothing() {
        DUE.sentence("10: there is none such (no bytes at hand)");
        FormatFiles x = withBytes(5);
        x.cut(0);
        isNone("octet(0)", x, 0);
        isNone("octet(-1)", x, -1);
    }

    private static void cut() {
        DUE.sentence("11: The first n of the bytes at hand stay: n");
        FormatFiles x = withBytes(10, 11, 12, 13, 14);
        DUE.is("cut(3)", x.cut(3), 3);
        DUE.is("bytes at hand", x.count(2), 3);
        for (int i = 0; i < 3; i++) {
            DUE.is("octet(" + i + ")", x.octet(i), 10 + i);
        }
        isNone("octet(3)", x, 3);
    }

    private static void cutToNothing() {
        DUE.sentence("11: The first n of the bytes at hand stay (none)");
        FormatFiles x = withBytes(10, 11);
        DUE.is("cut(0)", x.cut(0), 0);
        DUE.is("bytes at hand", x.count(2), 0);
        DUE.is("cut(0) of nothing", x.cut(0), 0);
    }

    private static void cutToAll() {
        DUE.sentence("11: The first n of the bytes at hand stay (all)");
        FormatFiles x = withBytes(10, 11);
        DUE.is("cut(2)", x.cut(2), 2);
        DUE.is("the last", x.octet(1), 11);
        FormatFiles full = new FormatFiles();
        SaveTest.fill(full);
        DUE.is("cut(8000)", full.cut(8000), 8000);
        DUE.is("bytes at hand", full.count(2), 8000);
    }

    private static void cutBelow() {
        DUE.sentence("11: -2 below 0");
        FormatFiles x = withBytes(10, 11);
        DUE.is("cut(-1)", x.cut(-1), -2);
        DUE.is("cut to the least", x.cut(Integer.MIN_VALUE), -2);
        DUE.is("bytes at hand", x.count(2), 2);
    }

    private static void cutAbove() {
        DUE.sentence("11: -2 .. more than there are");
        FormatFiles x = withBytes(10, 11, 12);
        DUE.is("cut(4)", x.cut(4), -2);
        DUE.is("cut(8000)", x.cut(8000), -2);
        DUE.is("cut to the greatest", x.cut(Integer.MAX_VALUE), -2);
        DUE.is("bytes at hand", x.count(2), 3);
        x.cut(2);
        DUE.is("cut(3), one having been cut off", x.cut(3), -2);
        DUE.is("cut(1) of nothing", new FormatFiles().cut(1), -2);
        FormatFiles full = new FormatFiles();
        SaveTest.fill(full);
        DUE.is("cut(8001) of 8000", full.cut(8001), -2);
    }

    private static void add() {
        DUE.sentence("12: A byte comes behind those at hand: how many there are");
        FormatFiles x = new FormatFiles();
        DUE.is("save", x.save(true), 5);
        DUE.is("behind a file", x.add((byte) 3), 6);
        DUE.is("the byte", x.octet(5), 3);
        DUE.is("the one before it", x.octet(4), 0);
        x.cut(2);
        DUE.is("behind a cut", x.add((byte) 9), 3);
        DUE.is("the byte there", x.octet(2), 9);
        isNone("none behind it", x, 3);
    }

    private static void addToNothing() {
        DUE.sentence("12: how many there are (the first)");
        FormatFiles x = new FormatFiles();
        DUE.is("-128", x.add((byte) -128), 1);
        DUE.is("127", x.add((byte) 127), 2);
        DUE.is("-1", x.add((byte) -1), 3);
        DUE.is("0", x.add((byte) 0), 4);
        DUE.is("the first", x.octet(0), -128);
        DUE.is("the second", x.octet(1), 127);
        DUE.is("the third", x.octet(2), -1);
        DUE.is("the fourth", x.octet(3), 0);
    }

    private static void addToTheLast() {
        DUE.sentence("THE BYTES AT HAND, 8000 at most (the last one is added)");
        FormatFiles x = new FormatFiles();
        SaveTest.fill(x);
        x.cut(7998);
        DUE.is("the last but one", x.add((byte) 4), 7999);
        DUE.is("the last", x.add((byte) 5), 8000);
        DUE.is("the byte there", x.octet(7999), 5);
    }

    private static void addWithoutRoom() {
        DUE.sentence("12: -4");
        FormatFiles x = new FormatFiles();
        SaveTest.fill(x);
        byte last = x.octet(7999);
        DUE.is("one more than 8000", x.add((byte) (last + 1)), -4);
        DUE.is("and again", x.add((byte) (last + 1)), -4);
        DUE.is("bytes at hand", x.count(2), 8000);
        DUE.is("the last of them", x.octet(7999), last);
        x.cut(7999);
        DUE.is("room again", x.add((byte) 1), 8000);
    }

    private static void poke() {
        DUE.sentence("13: Bits of a byte at hand are turned round: the byte then, 0 .. 255");
        FormatFiles x = withBytes(0x0F, 0x80, 0, 255);
        DUE.is("the first", x.poke(0, 0x3C), 0x33);
        DUE.is("it is so then", x.octet(0), 0x33);
        DUE.is("to 0", x.poke(1, 128), 0);
        DUE.is("the least mask", x.poke(2, 1), 1);
        DUE.is("the greatest mask", x.poke(2, 255), 254);
        DUE.is("it is so then", x.octet(2), (byte) 254);
        DUE.is("the last", x.poke(3, 127), 128);
        DUE.is("it is so then", x.octet(3), -128);
        DUE.is("another one stays", x.octet(0), 0x33);
        DUE.is("bytes at hand", x.count(2), 4);
        FormatFiles full = new FormatFiles();
        SaveTest.fill(full);
        int last = full.octet(7999) & 255;
        DUE.is("the last of 8000", full.poke(7999, 255), 255 - last);
    }

    private static void pokeTwice() {
        DUE.sentence("13: Bits of a byte at hand are turned round (twice)");
        FormatFiles x = withBytes(0x5A);
        for (int mask = 1; mask <= 128; mask += mask) {
            DUE.is("poke(0, " + mask + ")", x.poke(0, mask), 0x5A ^ mask);
            DUE.is("poke(0, " + mask + ") again", x.poke(0, mask), 0x5A);
        }
    }

    private static void pokeNoByte() {
        DUE.sentence("13: -1 no such byte");
        FormatFiles x = withBytes(1, 2);
        for (int i : new int[] {-1, 2, 8000, Integer.MIN_VALUE, Integer.MAX_VALUE}) {
            DUE.is("poke(" + i + ", 1)", x.poke(i, 1), -1);
        }
        x.cut(1);
        DUE.is("one that was cut off", x.poke(1, 1), -1);
        x.cut(0);
        DUE.is("of nothing", x.poke(0, 1), -1);
        FormatFiles full = new FormatFiles();
        SaveTest.fill(full);
        DUE.is("poke(8000, 1) of 8000", full.poke(8000, 1), -1);
    }

    private static void pokeNoMask() {
        DUE.sentence("13: -2 mask not 1 .. 255");
        FormatFiles x = withBytes(7);
        for (int mask : new int[] {0, -1, 256, 257, Integer.MIN_VALUE, Integer.MAX_VALUE}) {
            DUE.is("poke(0, " + mask + ")", x.poke(0, mask), -2);
        }
        DUE.is("the byte", x.octet(0), 7);
    }

    private static void pokeFirstThatFits() {
        DUE.sentence("REFUSALS answer, the first that fits (poke)");
        FormatFiles x = withBytes(7);
        DUE.is("poke(1, 0)", x.poke(1, 0), -1);
        DUE.is("poke(-1, 256)", x.poke(-1, 256), -1);
    }

    private static void whatIsAtHand() {
        DUE.sentence("THE BYTES AT HAND .. are those that were saved latest, cut, turned round, and added to");
        FormatFiles x = new FormatFiles();
        x.save(true);
        x.cut(4);
        x.poke(3, 3);
        x.add((byte) 8);
        int[] want = {70, 77, 0, 2, 8};
        for (int i = 0; i < want.length; i++) {
            DUE.is("octet(" + i + ")", x.octet(i), want[i]);
        }
        x.version(7);
        x.save(true);
        DUE.is("saved again: the version", x.octet(3), 7);
        DUE.is("saved again: sections", x.octet(4), 0);
    }
}
