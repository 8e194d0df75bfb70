/** Promises 10 to 13: the bytes at hand. */
public final class OctetsTest {
    private static final Due DUE = new Due();

    public static void main(String[] args) {
        octet();
        cut();
        add();
        addWithoutRoom();
        poke();
        DUE.end();
    }

    /** Promise 10. */
    private static void octet() {
        FormatFiles x = new FormatFiles();
        x.add((byte) -128);
        x.add((byte) 127);
        DUE.is("octet(0)", x.octet(0), -128);
        DUE.is("octet(1)", x.octet(1), 127);
        for (int i : new int[] {-1, 2, 8000, Integer.MIN_VALUE, Integer.MAX_VALUE}) {
            DUE.isThrown("octet(" + i + ")", () -> x.octet(i), ArrayIndexOutOfBoundsException.class);
        }
        x.cut(1);
        DUE.isThrown("octet behind a cut", () -> x.octet(1), ArrayIndexOutOfBoundsException.class);
        x.busy(true);
        DUE.is("octet, busy", x.octet(0), -128);
    }

    /** Promise 11. */
    private static void cut() {
        FormatFiles x = new FormatFiles();
        DUE.is("cut(0) of nothing", x.cut(0), 0);
        DUE.is("cut(1) of nothing", x.cut(1), -2);
        for (int b = 0; b < 5; b++) {
            x.add((byte) b);
        }
        DUE.is("cut to all", x.cut(5), 5);
        DUE.is("cut to more", x.cut(6), -2);
        DUE.is("cut(-1)", x.cut(-1), -2);
        DUE.is("cut to the least", x.cut(Integer.MIN_VALUE), -2);
        DUE.is("cut to the greatest", x.cut(Integer.MAX_VALUE), -2);
        DUE.is("all stay", x.count(2), 5);
        DUE.is("cut(3)", x.cut(3), 3);
        DUE.is("three stay", x.count(2), 3);
        DUE.is("the last of them", x.octet(2), 2);
        DUE.is("no way back", x.cut(4), -2);
        x.busy(true);
        DUE.is("cut, busy", x.cut(0), 0);
        DUE.is("nothing stays", x.count(2), 0);
    }

    /** Promise 12. */
    private static void add() {
        FormatFiles x = new FormatFiles();
        DUE.is("add the first", x.add((byte) -1), 1);
        x.busy(true);
        DUE.is("add, busy", x.add((byte) 5), 2);
        DUE.is("the first", x.octet(0), -1);
        DUE.is("the second", x.octet(1), 5);
        x.cut(1);
        DUE.is("add behind a cut", x.add((byte) 9), 2);
        DUE.is("what was added there", x.octet(1), 9);
        FormatFiles y = new FormatFiles();
        DUE.is("save", y.save(true), 5);
        DUE.is("add behind what was saved", y.add((byte) 3), 6);
        DUE.is("save in place of all", y.save(true), 5);
    }

    private static void addWithoutRoom() {
        FormatFiles x = new FormatFiles();
        DUE.is("a file of 8000 bytes", SaveTest.fill(x), 8000);
        DUE.is("add when there is no room", x.add((byte) 1), -4);
        DUE.is("bytes at hand stay", x.count(2), 8000);
        DUE.is("cut(7999)", x.cut(7999), 7999);
        DUE.is("add the last one", x.add((byte) 1), 8000);
        DUE.is("add one more", x.add((byte) 1), -4);
        DUE.is("the last one", x.octet(7999), 1);
    }

    /** Promise 13. */
    private static void poke() {
        FormatFiles x = new FormatFiles();
        DUE.is("poke nothing", x.poke(0, 1), -1);
        x.add((byte) 0x0F);
        x.add((byte) 0x80);
        DUE.is("poke(0, 255)", x.poke(0, 255), 0xF0);
        DUE.is("the byte then", x.octet(0), (byte) 0xF0);
        DUE.is("poke(0, 1)", x.poke(0, 1), 0xF1);
        DUE.is("poke(1, 128)", x.poke(1, 128), 0);
        DUE.is("poke(2, 1)", x.poke(2, 1), -1);
        DUE.is("poke(-1, 0)", x.poke(-1, 0), -1);
        DUE.is("poke the greatest", x.poke(Integer.MAX_VALUE, Integer.MAX_VALUE), -1);
        DUE.is("poke the least", x.poke(Integer.MIN_VALUE, 1), -1);
        for (int mask : new int[] {0, -1, 256, Integer.MIN_VALUE, Integer.MAX_VALUE}) {
            DUE.is("poke with mask " + mask, x.poke(0, mask), -2);
        }
        DUE.is("no other was turned", x.octet(0), (byte) 0xF1);
        x.busy(true);
        DUE.is("poke, busy", x.poke(0, 0xF1), 0);
        x.cut(1);
        DUE.is("poke behind a cut", x.poke(1, 1), -1);
    }
}
