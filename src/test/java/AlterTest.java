/** Promise 6: alter. */
public final class AlterTest {
    private static final int[] NO_BYTES = {-1, Integer.MIN_VALUE, Integer.MAX_VALUE};
    private static final int[] BAD_VALUES = {-1, 256, Integer.MIN_VALUE, Integer.MAX_VALUE};

    public static void main(String[] args) {
        Checks.run(AlterTest.class);
    }

    private static void alters(String what, State before, int slot, int i, int v) {
        byte[] changed = State.altered(before.slot(slot), i, v);
        before.becomes(what + ": alter(" + slot + ", " + i + ", " + v + ")", x -> x.alter(slot, i, v),
                changed[i] & 255, before.with(slot, changed));
    }

    private static void hasNoByte(State before, int slot, int i) {
        before.stays("alter(" + slot + ", " + i + ", 1)", x -> x.alter(slot, i, 1), Checks.INDEX);
    }

    /** slot 0 .. 7, the smallest and the largest among them. */
    private static void everySlotIsAltered() {
        for (int slot = 0; slot < 8; slot++) {
            alters("each slot", State.filled(), slot, slot, 85);
        }
    }

    private static void slotJustBeyondIsRefused() {
        for (int bad : Checks.BAD_SLOTS) {
            State.filled().stays("alter(" + bad + ", 0, 1)", x -> x.alter(bad, 0, 1), Checks.ARGUMENT);
        }
    }

    /** "v 0 .. 255": the smallest, by which nothing changes. */
    private static void smallestValue() {
        alters("v 0", State.filled(), 4, 2, 0);
        alters("v 1", State.filled(), 4, 2, 1);
    }

    /** "v 0 .. 255": the largest, by which every bit changes. */
    private static void largestValue() {
        alters("v 255", State.filled(), 4, 2, 255);
        alters("v 254", State.filled(), 4, 2, 254);
    }

    private static void valueJustBeyondIsRefused() {
        for (int bad : BAD_VALUES) {
            State.filled().stays("alter(4, 2, " + bad + ")", x -> x.alter(4, 2, bad), Checks.ARGUMENT);
        }
    }

    /** "Answers what it is now": 0 .. 255, never a negative number. */
    private static void answersFrom0To255() {
        ModuleKem x = State.empty().with(1, new byte[1]).make();
        Checks.due("0 ^ 127", () -> x.alter(1, 0, 127), 127);
        Checks.due("127 ^ 255", () -> x.alter(1, 0, 255), 128);
        Checks.due("128 ^ 127", () -> x.alter(1, 0, 127), 255);
        Checks.due("255 ^ 0", () -> x.alter(1, 0, 0), 255);
        Checks.due("255 ^ 255", () -> x.alter(1, 0, 255), 0);
    }

    private static void everyValueIsExclusiveOr() {
        ModuleKem x = State.empty().with(1, new byte[1]).make();
        int is = 0;
        for (int i = 0; i <= 255; i++) {
            int v = i;
            is ^= v;
            Checks.due("alter by " + v, () -> x.alter(1, 0, v), is);
        }
    }

    private static void firstByte() {
        alters("the first", State.filled(), 4, 0, 200);
    }

    private static void lastByte() {
        alters("the last", State.filled(), 4, State.filled().slot(4).length - 1, 200);
    }

    /** "there is none: IndexOutOfBoundsException". */
    private static void byteJustBehindTheLast() {
        int size = State.filled().slot(4).length;
        hasNoByte(State.filled(), 4, size);
        hasNoByte(State.filled(), 4, 8191);
        hasNoByte(State.filled(), 4, 8192);
    }

    private static void byteBeforeTheFirst() {
        for (int i : NO_BYTES) {
            hasNoByte(State.filled(), 4, i);
        }
    }

    private static void emptySlotHasNone() {
        for (int i : new int[] {0, -1, 1, 8191}) {
            hasNoByte(State.filled().with(4, new byte[0]), 4, i);
        }
    }

    private static void fullSlotHasItsLast() {
        alters("the last of a full slot", State.full(), 4, 8191, 200);
        alters("the first of a full slot", State.full(), 4, 0, 200);
    }

    private static void fullSlotHasNoneBehindIt() {
        hasNoByte(State.full(), 4, 8192);
        hasNoByte(State.full(), 4, -1);
    }

    /** A byte that was there before the slot was made shorter is there no more. */
    private static void cutByteIsNotThere() {
        ModuleKem x = State.filled().make();
        x.resize(4, 3);
        Checks.due("alter(4, 3, 1)", () -> x.alter(4, 3, 1), Checks.INDEX);
        Checks.due("alter(4, 2, 0)", () -> x.alter(4, 2, 0), State.filled().slot(4)[2]);
    }

    /** What is thrown first where the byte is not there, and v or the slot is out of range, too. */
    private static void rangeIsLookedAtBeforeTheByte() {
        for (int i : new int[] {-1, 17, 8192, Integer.MIN_VALUE, Integer.MAX_VALUE}) {
            for (int bad : BAD_VALUES) {
                State.filled().stays("alter(4, " + i + ", " + bad + ")", x -> x.alter(4, i, bad), Checks.ARGUMENT);
            }
            for (int bad : Checks.BAD_SLOTS) {
                State.filled().stays("alter(" + bad + ", " + i + ", 1)", x -> x.alter(bad, i, 1), Checks.ARGUMENT);
            }
        }
    }

    private static void rangeOfTheValueIsLookedAtInAnEmptySlot() {
        State.empty().stays("alter(4, 0, 256) of an empty slot", x -> x.alter(4, 0, 256), Checks.ARGUMENT);
    }
}
