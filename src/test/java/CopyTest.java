import java.util.Arrays;

/** Promise 4: copy. */
public final class CopyTest {
    public static void main(String[] args) {
        Checks.run(CopyTest.class);
    }

    private static void copies(String what, State before, int from, int to) {
        byte[] bytes = before.slot(from);
        before.becomes(what + ": copy(" + from + ", " + to + ")", x -> x.copy(from, to), bytes.length,
                before.with(to, bytes));
    }

    /** "from, to 0 .. 7": the smallest and the largest of each, and every slot to the next. */
    private static void everySlotIsCopied() {
        copies("the edges", State.filled(), 0, 7);
        copies("the edges", State.filled(), 7, 0);
        for (int slot = 0; slot < 8; slot++) {
            copies("each slot", State.filled(), slot, (slot + 1) % 8);
        }
    }

    private static void fromJustBeyondIsRefused() {
        for (int bad : Checks.BAD_SLOTS) {
            State.filled().stays("copy(" + bad + ", 0)", x -> x.copy(bad, 0), Checks.ARGUMENT);
        }
    }

    private static void toJustBeyondIsRefused() {
        for (int bad : Checks.BAD_SLOTS) {
            State.filled().stays("copy(0, " + bad + ")", x -> x.copy(0, bad), Checks.ARGUMENT);
        }
    }

    private static void bothBeyondIsRefused() {
        for (int bad : Checks.BAD_SLOTS) {
            State.filled().stays("copy(" + bad + ", " + bad + ")", x -> x.copy(bad, bad), Checks.ARGUMENT);
        }
    }

    private static void slotIsCopiedToItself() {
        for (int slot = 0; slot < 8; slot++) {
            copies("to itself", State.filled(), slot, slot);
        }
    }

    private static void emptySlotIsCopied() {
        copies("of an empty slot", State.filled().with(3, new byte[0]), 3, 6);
    }

    private static void emptySlotIsCopiedToItself() {
        copies("of an empty slot", State.filled().with(3, new byte[0]), 3, 3);
    }

    private static void slotIsCopiedToAnEmptyOne() {
        copies("to an empty slot", State.filled().with(3, new byte[0]), 6, 3);
    }

    private static void fullSlotIsCopied() {
        copies("of a full slot", State.filled().with(3, Checks.sparse(Checks.FULL, 3)), 3, 6);
        copies("of a full slot", State.full(), 2, 1);
    }

    /** "to becomes as from is": no longer, and nothing of what it had lies behind its end. */
    private static void fullSlotIsReplaced() {
        State before = State.filled().with(3, Checks.sparse(Checks.FULL, 3));
        copies("to a full slot", before, 6, 3);
        ModuleKem x = before.make();
        x.copy(6, 3);
        x.resize(3, Checks.FULL);
        Checks.holdsBytes("resized again", x, 3, Arrays.copyOf(before.slot(6), Checks.FULL));
    }

    private static void copyIsApartFromWhatWasCopied() {
        State before = State.filled();
        ModuleKem x = before.make();
        x.copy(1, 2);
        x.alter(2, 0, 255);
        Checks.holdsBytes("from after the copy is altered", x, 1, before.slot(1));
        x.alter(1, 1, 255);
        Checks.holdsBytes("to after from is altered", x, 2, State.altered(before.slot(1), 0, 255));
    }
}
