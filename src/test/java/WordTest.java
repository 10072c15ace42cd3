/** Promise 8: word. */
public final class WordTest {
    public static void main(String[] args) {
        Checks.run(WordTest.class);
    }

    private static void reads(String what, State state, int slot, int i) {
        state.stays(what + ": word(" + slot + ", " + i + ")", x -> x.word(slot, i),
                Checks.wordAt(state.slot(slot), i));
    }

    private static void hasNoByte(State state, int slot, int i) {
        state.stays("word(" + slot + ", " + i + ")", x -> x.word(slot, i), Checks.INDEX);
    }

    /** "8 BYTES from i on, the highest first", as written out. */
    private static void highestByteComesFirst() {
        State state = State.empty().with(0, new byte[] {1, 2, 3, 4, 5, 6, 7, 8, 9});
        state.stays("word(0, 0)", x -> x.word(0, 0), 0x0102030405060708L);
        state.stays("word(0, 1)", x -> x.word(0, 1), 0x0203040506070809L);
    }

    /** slot 0 .. 7, the smallest and the largest among them. */
    private static void everySlot() {
        for (int slot = 0; slot < 8; slot++) {
            reads("each slot", State.filled(), slot, 3);
        }
    }

    private static void slotJustBeyondIsRefused() {
        for (int bad : Checks.BAD_SLOTS) {
            State.filled().stays("word(" + bad + ", 0)", x -> x.word(bad, 0), Checks.ARGUMENT);
        }
    }

    private static void firstByte() {
        reads("the first", State.filled(), 3, 0);
    }

    /** Eight bytes are left, and no zero is needed. */
    private static void lastWholeEight() {
        State state = State.empty().with(0, new byte[] {9, 8, 7, 6, 5, 4, 3, 2, 1});
        state.stays("word(0, 1)", x -> x.word(0, 1), 0x0807060504030201L);
    }

    /** "zeros behind the end": seven bytes are left, then fewer, then one. */
    private static void fewerThanEightAreLeft() {
        State state = State.empty().with(0, new byte[] {9, 8, 7, 6, 5, 4, 3, 2, 1});
        state.stays("word(0, 2)", x -> x.word(0, 2), 0x0706050403020100L);
        state.stays("word(0, 5)", x -> x.word(0, 5), 0x0403020100000000L);
    }

    private static void lastByte() {
        State state = State.empty().with(0, new byte[] {9, 8, 7, 6, 5, 4, 3, 2, 1});
        state.stays("word(0, 8)", x -> x.word(0, 8), 0x0100000000000000L);
    }

    /** "i is not one of the SLOT: IndexOutOfBoundsException". */
    private static void byteJustBehindTheLast() {
        int size = State.filled().slot(3).length;
        hasNoByte(State.filled(), 3, size);
        hasNoByte(State.filled(), 3, 8191);
        hasNoByte(State.filled(), 3, 8192);
    }

    private static void byteBeforeTheFirst() {
        for (int i : new int[] {-1, -7, -8, Integer.MIN_VALUE, Integer.MAX_VALUE, Integer.MAX_VALUE - 7}) {
            hasNoByte(State.filled(), 3, i);
        }
    }

    private static void emptySlotHasNone() {
        for (int i : new int[] {0, -1, 1, 8191}) {
            hasNoByte(State.filled().with(3, new byte[0]), 3, i);
        }
    }

    private static void slotOfOneByte() {
        State state = State.filled().with(3, new byte[] {-128});
        state.stays("word(3, 0)", x -> x.word(3, 0), Long.MIN_VALUE);
        hasNoByte(state, 3, 1);
    }

    private static void endOfAFullSlot() {
        for (int i : new int[] {0, 8183, 8184, 8185, 8191}) {
            reads("a full slot", State.full(), 3, i);
        }
        hasNoByte(State.full(), 3, 8192);
        hasNoByte(State.full(), 3, -1);
    }

    /** Bytes of 128 and more are not taken for negative numbers. */
    private static void largestBytes() {
        State state = State.empty().with(0, new byte[] {-1, -2, -3, -4, -5, -6, -7, -128, 0});
        state.stays("word(0, 0)", x -> x.word(0, 0), 0xfffefdfcfbfaf980L);
        state.stays("word(0, 1)", x -> x.word(0, 1), 0xfefdfcfbfaf98000L);
        state.with(0, Checks.bytesOf(255, 8)).stays("ones", x -> x.word(0, 0), -1L);
    }

    /** What a slot had behind its end before it was made shorter is not read. */
    private static void zerosBehindTheEndOfACutSlot() {
        ModuleKem x = State.filled().make();
        x.resize(3, 2);
        Checks.due("after resize", () -> x.word(3, 0), Checks.wordAt(new byte[] {61, 62}, 0));
        x.copy(3, 4);
        Checks.due("after copy", () -> x.word(4, 1), 62L << 56);
        x.end(5, 1);
        Checks.due("after end", () -> x.word(5, 0), 200L << 56);
    }

    private static void zerosBehindASharedKey() {
        ModuleKem x = State.empty().with(0, new byte[64]).make();
        x.kemKeys(0);
        x.resize(0, 32);
        Checks.put(x, 6, Checks.bytesOf(255, 60));
        x.kemWrap(0);
        Checks.due("the last byte of SHARED", () -> x.word(6, 31) & 0x00ffffffffffffffL, 0L);
        Checks.due("word(6, 32)", () -> x.word(6, 32), Checks.INDEX);
    }

    private static void rangeOfTheSlotIsLookedAtBeforeTheByte() {
        for (int i : new int[] {-1, 16, 8192, Integer.MIN_VALUE, Integer.MAX_VALUE}) {
            for (int bad : Checks.BAD_SLOTS) {
                State.filled().stays("word(" + bad + ", " + i + ")", x -> x.word(bad, i), Checks.ARGUMENT);
            }
        }
    }
}
