/** Promises 1 to 9: the tape, the slots, and every edge of their arguments. */
public final class SlotsTest {
    private static final String ARGUMENT = "throws.IllegalArgumentException";
    private static final String INDEX = "throws.IndexOutOfBoundsException";
    private static final int[] BAD_SLOTS = {-1, 8, Integer.MIN_VALUE, Integer.MAX_VALUE};
    private static final int[] BAD_SIZES = {-1, 8193, Integer.MIN_VALUE, Integer.MAX_VALUE};

    public static void main(String[] args) {
        newObject();
        feedAddsTwentyBytes();
        feedStopsAtTheEdge();
        endTakesTheFirstBytes();
        endRefuses();
        endTakesAFullTape();
        copyReplaces();
        resizeCutsAndFills();
        alterIsExclusiveOr();
        lengthRefuses();
        wordReadsEightBytes();
        sameComparesAll();
        objectsAreApart();
        Checks.finish("SlotsTest");
    }

    private static ModuleKem withBytes(int slot, int n) {
        ModuleKem x = new ModuleKem();
        byte[] bytes = new byte[n];
        for (int i = 0; i < n; i++) {
            bytes[i] = (byte) (i + 1);
        }
        Checks.put(x, slot, bytes);
        return x;
    }

    private static void newObject() {
        ModuleKem x = new ModuleKem();
        for (int i = 0; i < 8; i++) {
            int slot = i;
            Checks.due("new: length(" + slot + ")", () -> x.length(slot), 0);
            Checks.due("new: word(" + slot + ", 0)", () -> x.word(slot, 0), INDEX);
            Checks.due("new: same(0, " + slot + ")", () -> x.same(0, slot), true);
        }
        Checks.due("new: end(0, 1)", () -> x.end(0, 1), INDEX);
        Checks.due("new: end(0, 0)", () -> x.end(0, 0), 0);
    }

    private static void feedAddsTwentyBytes() {
        ModuleKem x = new ModuleKem();
        Checks.due("feed", () -> x.feed(0x01020304, 0x05060708, -1, Integer.MIN_VALUE, 0x7f80ff00), 20);
        Checks.due("feed again", () -> x.feed(6, 7, 8, 9, 10), 40);
        Checks.due("end", () -> x.end(3, 40), 40);
        Checks.due("word(3, 0)", () -> x.word(3, 0), 0x0102030405060708L);
        Checks.due("word(3, 8)", () -> x.word(3, 8), 0xffffffff80000000L);
        Checks.due("word(3, 16)", () -> x.word(3, 16), 0x7f80ff0000000006L);
        Checks.due("word(3, 32)", () -> x.word(3, 32), 0x000000090000000aL);
    }

    private static void feedStopsAtTheEdge() {
        ModuleKem x = new ModuleKem();
        for (int i = 1; i <= 409; i++) {
            int n = i;
            Checks.due("feed number " + i, () -> x.feed(n, n, n, n, n), 20 * n);
        }
        Checks.due("feed number 410", () -> x.feed(1, 2, 3, 4, 5), INDEX);
        Checks.due("feed number 410 again", () -> x.feed(1, 2, 3, 4, 5), INDEX);
        Checks.due("end(0, 8181)", () -> x.end(0, 8181), INDEX);
        Checks.due("end(0, 8192)", () -> x.end(0, 8192), INDEX);
        Checks.due("end(0, 8180)", () -> x.end(0, 8180), 8180);
        Checks.due("last fed", () -> x.word(0, 8172), 409L << 32 | 409);
        Checks.due("first fed", () -> x.word(0, 0), 1L << 32 | 1);
        Checks.due("feed on the tape that is empty again", () -> x.feed(1, 2, 3, 4, 5), 20);
    }

    private static void endTakesTheFirstBytes() {
        for (int i = 0; i < 8; i++) {
            int slot = i;
            ModuleKem x = withBytes(slot, 40);
            x.feed(0x11223344, 0x55667788, 1, 2, 3);
            Checks.due("end(" + slot + ", 5)", () -> x.end(slot, 5), 5);
            Checks.due("length after end", () -> x.length(slot), 5);
            Checks.due("word after end", () -> x.word(slot, 0), 0x1122334455000000L);
            Checks.due("the tape is empty", () -> x.end(slot, 1), INDEX);
            Checks.due("feed after end", () -> x.feed(9, 9, 9, 9, 9), 20);
            Checks.due("end with nothing", () -> x.end(slot, 0), 0);
            Checks.due("length after that", () -> x.length(slot), 0);
            Checks.due("the tape is empty then, too", () -> x.feed(9, 9, 9, 9, 9), 20);
            for (int other = 0; other < 8; other++) {
                int o = other;
                Checks.due("other slots stay", () -> x.length(o), 0);
            }
        }
    }

    private static void endRefuses() {
        ModuleKem x = withBytes(0, 10);
        x.feed(1, 2, 3, 4, 5);
        for (int bad : BAD_SLOTS) {
            Checks.due("end(" + bad + ", 1)", () -> x.end(bad, 1), ARGUMENT);
            Checks.due("end(" + bad + ", 21)", () -> x.end(bad, 21), ARGUMENT);
        }
        for (int bad : BAD_SIZES) {
            Checks.due("end(0, " + bad + ")", () -> x.end(0, bad), ARGUMENT);
        }
        Checks.due("end(0, 21)", () -> x.end(0, 21), INDEX);
        Checks.due("end(0, 8192)", () -> x.end(0, 8192), INDEX);
        Checks.due("the slot stays", () -> x.length(0), 10);
        Checks.due("the slot's bytes stay", () -> x.word(0, 0), 0x0102030405060708L);
        Checks.due("the tape stays", () -> x.end(1, 20), 20);
        Checks.due("the tape's bytes stay", () -> x.word(1, 12), 0x0000000400000005L);
    }

    private static void endTakesAFullTape() {
        ModuleKem x = withBytes(4, 8180);
        Checks.due("length of 8180", () -> x.length(4), 8180);
        Checks.due("resize to 8192", () -> x.resize(4, 8192), 8180);
        Checks.due("copy of 8192", () -> x.copy(4, 5), 8192);
        Checks.due("same of 8192", () -> x.same(4, 5), true);
        Checks.due("alter(5, 8191, 1)", () -> x.alter(5, 8191, 1), 1);
        Checks.due("same but for the last byte", () -> x.same(4, 5), false);
        Checks.due("word(5, 8191)", () -> x.word(5, 8191), 1L << 56);
        Checks.due("word(5, 8192)", () -> x.word(5, 8192), INDEX);
    }

    private static void copyReplaces() {
        ModuleKem x = withBytes(1, 12);
        Checks.put(x, 2, new byte[30]);
        x.feed(1, 2, 3, 4, 5);
        Checks.due("copy(1, 2)", () -> x.copy(1, 2), 12);
        Checks.due("length(2)", () -> x.length(2), 12);
        Checks.due("same(1, 2)", () -> x.same(1, 2), true);
        Checks.due("word(2, 8)", () -> x.word(2, 8), 0x090a0b0c00000000L);
        Checks.due("copy(1, 1)", () -> x.copy(1, 1), 12);
        Checks.due("same after a copy to itself", () -> x.same(1, 2), true);
        Checks.due("alter the copy", () -> x.alter(2, 0, 255), 254);
        Checks.due("the copied one stays", () -> x.word(1, 0), 0x0102030405060708L);
        Checks.due("copy of an empty one", () -> x.copy(3, 2), 0);
        Checks.due("length of that", () -> x.length(2), 0);
        for (int bad : BAD_SLOTS) {
            Checks.due("copy(" + bad + ", 0)", () -> x.copy(bad, 0), ARGUMENT);
            Checks.due("copy(0, " + bad + ")", () -> x.copy(0, bad), ARGUMENT);
        }
        Checks.due("the tape stays", () -> x.feed(1, 2, 3, 4, 5), 40);
    }

    private static void resizeCutsAndFills() {
        ModuleKem x = withBytes(6, 20);
        Checks.due("resize(6, 20)", () -> x.resize(6, 20), 20);
        Checks.due("word(6, 12)", () -> x.word(6, 12), 0x0d0e0f1011121314L);
        Checks.due("resize(6, 3)", () -> x.resize(6, 3), 20);
        Checks.due("word(6, 0) of 3", () -> x.word(6, 0), 0x0102030000000000L);
        Checks.due("word(6, 3) of 3", () -> x.word(6, 3), INDEX);
        Checks.due("resize(6, 16)", () -> x.resize(6, 16), 3);
        Checks.due("no old byte comes back", () -> x.word(6, 0), 0x0102030000000000L);
        Checks.due("nor one behind", () -> x.word(6, 8), 0L);
        Checks.due("resize(6, 0)", () -> x.resize(6, 0), 16);
        Checks.due("length(6)", () -> x.length(6), 0);
        Checks.due("resize(6, 8192)", () -> x.resize(6, 8192), 0);
        Checks.due("word(6, 0) of zeros", () -> x.word(6, 0), 0L);
        Checks.due("word(6, 8184) of zeros", () -> x.word(6, 8184), 0L);
        for (int bad : BAD_SLOTS) {
            Checks.due("resize(" + bad + ", 1)", () -> x.resize(bad, 1), ARGUMENT);
        }
        for (int bad : BAD_SIZES) {
            Checks.due("resize(6, " + bad + ")", () -> x.resize(6, bad), ARGUMENT);
        }
        Checks.due("length after those", () -> x.length(6), 8192);
    }

    private static void alterIsExclusiveOr() {
        ModuleKem x = withBytes(1, 3);
        Checks.due("alter(1, 0, 255)", () -> x.alter(1, 0, 255), 254);
        Checks.due("alter(1, 0, 254)", () -> x.alter(1, 0, 254), 0);
        Checks.due("alter(1, 2, 128)", () -> x.alter(1, 2, 128), 131);
        Checks.due("alter(1, 2, 0)", () -> x.alter(1, 2, 0), 131);
        Checks.due("word after alter", () -> x.word(1, 0), 0x0002830000000000L);
        for (int bad : new int[] {-1, 3, 8192, Integer.MIN_VALUE, Integer.MAX_VALUE}) {
            Checks.due("alter(1, " + bad + ", 1)", () -> x.alter(1, bad, 1), INDEX);
            Checks.due("alter(1, " + bad + ", 256)", () -> x.alter(1, bad, 256), ARGUMENT);
            Checks.due("alter(8, " + bad + ", 1)", () -> x.alter(8, bad, 1), ARGUMENT);
        }
        for (int bad : new int[] {-1, 256, Integer.MIN_VALUE, Integer.MAX_VALUE}) {
            Checks.due("alter(1, 0, " + bad + ")", () -> x.alter(1, 0, bad), ARGUMENT);
        }
        for (int bad : BAD_SLOTS) {
            Checks.due("alter(" + bad + ", 0, 1)", () -> x.alter(bad, 0, 1), ARGUMENT);
        }
        Checks.due("alter of an empty slot", () -> x.alter(0, 0, 1), INDEX);
        Checks.due("word after those", () -> x.word(1, 0), 0x0002830000000000L);
    }

    private static void lengthRefuses() {
        ModuleKem x = withBytes(7, 21);
        Checks.due("length(7)", () -> x.length(7), 21);
        for (int bad : BAD_SLOTS) {
            Checks.due("length(" + bad + ")", () -> x.length(bad), ARGUMENT);
        }
    }

    private static void wordReadsEightBytes() {
        ModuleKem x = withBytes(0, 11);
        Checks.due("alter(0, 3, 252)", () -> x.alter(0, 3, 252), 248);
        Checks.due("word(0, 0)", () -> x.word(0, 0), 0x010203f805060708L);
        Checks.due("word(0, 3)", () -> x.word(0, 3), 0xf805060708090a0bL);
        Checks.due("word(0, 4)", () -> x.word(0, 4), 0x05060708090a0b00L);
        Checks.due("word(0, 10)", () -> x.word(0, 10), 0x0b00000000000000L);
        for (int bad : new int[] {-1, 11, 8192, Integer.MIN_VALUE, Integer.MAX_VALUE}) {
            Checks.due("word(0, " + bad + ")", () -> x.word(0, bad), INDEX);
            Checks.due("word(8, " + bad + ")", () -> x.word(8, bad), ARGUMENT);
        }
        for (int bad : BAD_SLOTS) {
            Checks.due("word(" + bad + ", 0)", () -> x.word(bad, 0), ARGUMENT);
        }
    }

    private static void sameComparesAll() {
        ModuleKem x = withBytes(0, 9);
        x.copy(0, 1);
        Checks.due("same(0, 1)", () -> x.same(0, 1), true);
        Checks.due("same(0, 0)", () -> x.same(0, 0), true);
        for (int place : new int[] {0, 4, 8}) {
            x.alter(1, place, 128);
            Checks.due("same but for byte " + place, () -> x.same(0, 1), false);
            x.alter(1, place, 128);
        }
        x.resize(1, 10);
        Checks.due("same but for a zero behind", () -> x.same(0, 1), false);
        Checks.due("same the other way round", () -> x.same(1, 0), false);
        x.resize(1, 8);
        Checks.due("same but for the last byte", () -> x.same(0, 1), false);
        Checks.due("same(3, 4), both empty", () -> x.same(3, 4), true);
        Checks.due("same(3, 0), one empty", () -> x.same(3, 0), false);
        for (int bad : BAD_SLOTS) {
            Checks.due("same(" + bad + ", 0)", () -> x.same(bad, 0), ARGUMENT);
            Checks.due("same(0, " + bad + ")", () -> x.same(0, bad), ARGUMENT);
        }
    }

    private static void objectsAreApart() {
        ModuleKem x = withBytes(0, 9);
        ModuleKem y = new ModuleKem();
        x.feed(1, 2, 3, 4, 5);
        Checks.due("another object's slot", () -> y.length(0), 0);
        Checks.due("another object's tape", () -> y.feed(1, 2, 3, 4, 5), 20);
    }
}
