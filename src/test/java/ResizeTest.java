import java.util.Arrays;

/** Promise 5: resize. */
public final class ResizeTest {
    public static void main(String[] args) {
        Checks.run(ResizeTest.class);
    }

    private static void resizes(String what, State before, int slot, int n) {
        byte[] bytes = before.slot(slot);
        before.becomes(what + ": resize(" + slot + ", " + n + ")", x -> x.resize(slot, n), bytes.length,
                before.with(slot, Arrays.copyOf(bytes, n)));
    }

    /** slot 0 .. 7, the smallest and the largest among them. */
    private static void everySlotIsResized() {
        for (int slot = 0; slot < 8; slot++) {
            resizes("each slot", State.filled(), slot, 5);
            resizes("each slot", State.filled(), slot, 30);
        }
    }

    private static void slotJustBeyondIsRefused() {
        for (int bad : Checks.BAD_SLOTS) {
            State.filled().stays("resize(" + bad + ", 5)", x -> x.resize(bad, 5), Checks.ARGUMENT);
        }
    }

    /** "n 0 .. 8192": the smallest. */
    private static void slotIsEmptied() {
        resizes("to nothing", State.filled(), 6, 0);
        resizes("to nothing", State.full(), 6, 0);
    }

    private static void emptySlotStaysEmpty() {
        resizes("of an empty slot", State.empty(), 6, 0);
    }

    private static void emptySlotGetsAByte() {
        resizes("of an empty slot", State.empty(), 6, 1);
    }

    /** "n 0 .. 8192": the largest. */
    private static void slotIsFilled() {
        resizes("to the largest", State.filled(), 6, 8192);
        resizes("to the largest", State.empty(), 6, 8192);
    }

    private static void fullSlotStaysFull() {
        resizes("of a full slot", State.full(), 6, 8192);
    }

    private static void fullSlotLosesItsLastByte() {
        resizes("of a full slot", State.full(), 6, 8191);
    }

    private static void sizeJustBeyondIsRefused() {
        for (int bad : Checks.BAD_SIZES) {
            State.filled().stays("resize(6, " + bad + ")", x -> x.resize(6, bad), Checks.ARGUMENT);
            State.full().stays("resize(6, " + bad + ")", x -> x.resize(6, bad), Checks.ARGUMENT);
        }
    }

    private static void bothBeyondIsRefused() {
        for (int bad : Checks.BAD_SIZES) {
            State.filled().stays("resize(8, " + bad + ")", x -> x.resize(8, bad), Checks.ARGUMENT);
        }
    }

    /** As many as it had, one fewer, one more. */
    private static void sizesNextToTheOldOne() {
        int had = State.filled().slot(3).length;
        resizes("the same", State.filled(), 3, had);
        resizes("one fewer", State.filled(), 3, had - 1);
        resizes("one more", State.filled(), 3, had + 1);
    }

    /** "and zeros behind them": also where it had other bytes before it was made shorter. */
    private static void cutBytesDoNotComeBack() {
        ModuleKem x = State.filled().make();
        byte[] first = Arrays.copyOf(State.filled().slot(3), 4);
        x.resize(3, 4);
        Checks.due("resize again", () -> x.resize(3, 16), 4);
        Checks.holdsBytes("after that", x, 3, Arrays.copyOf(first, 16));
    }

    private static void noByteOfAFullSlotComesBack() {
        for (int n : new int[] {0, 1, 8191}) {
            ModuleKem x = new ModuleKem();
            byte[] ones = new byte[Checks.FULL_TAPE];
            Arrays.fill(ones, (byte) 255);
            Checks.put(x, 3, ones);
            x.resize(3, Checks.FULL);
            x.alter(3, 8191, 255);
            x.resize(3, n);
            Checks.due("resize from " + n, () -> x.resize(3, 8192), n);
            for (int i = (n + 7) / 8 * 8; i < 8192; i += 8 * 97) {
                int at = i;
                Checks.due("word(3, " + at + ")", () -> x.word(3, at), 0L);
            }
            Checks.due("the last byte", () -> x.word(3, 8191), 0L);
        }
    }

    /** "Answers how many it had." */
    private static void answersWhatItHad() {
        ModuleKem x = new ModuleKem();
        Checks.due("of a new one", () -> x.resize(2, 8192), 0);
        Checks.due("of a full one", () -> x.resize(2, 1), 8192);
        Checks.due("of one byte", () -> x.resize(2, 8191), 1);
        Checks.due("of 8191", () -> x.resize(2, 0), 8191);
        Checks.due("of an empty one", () -> x.resize(2, 0), 0);
    }
}
