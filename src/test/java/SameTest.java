import java.util.Arrays;

/** Promise 9: same. */
public final class SameTest {
    public static void main(String[] args) {
        Checks.run(SameTest.class);
    }

    private static void bothWays(String what, State state, int slot, int other, boolean want) {
        state.stays(what + ": same(" + slot + ", " + other + ")", x -> x.same(slot, other), want);
        state.stays(what + ": same(" + other + ", " + slot + ")", x -> x.same(other, slot), want);
    }

    private static State alike(int slot, int other) {
        return State.filled().with(other, State.filled().slot(slot));
    }

    /** slot and other 0 .. 7, the smallest and the largest of each. */
    private static void everySlot() {
        for (int slot = 0; slot < 8; slot++) {
            int next = (slot + 1) % 8;
            bothWays("alike", alike(slot, next), slot, next, true);
            bothWays("not alike", State.filled(), slot, next, false);
        }
    }

    private static void firstJustBeyondIsRefused() {
        for (int bad : Checks.BAD_SLOTS) {
            State.filled().stays("same(" + bad + ", 0)", x -> x.same(bad, 0), Checks.ARGUMENT);
        }
    }

    private static void otherJustBeyondIsRefused() {
        for (int bad : Checks.BAD_SLOTS) {
            State.filled().stays("same(0, " + bad + ")", x -> x.same(0, bad), Checks.ARGUMENT);
        }
    }

    private static void bothBeyondIsRefused() {
        for (int bad : Checks.BAD_SLOTS) {
            State.filled().stays("same(" + bad + ", " + bad + ")", x -> x.same(bad, bad), Checks.ARGUMENT);
        }
    }

    private static void slotWithItself() {
        for (int i = 0; i < 8; i++) {
            int slot = i;
            State.filled().stays("same(" + slot + ", " + slot + ")", x -> x.same(slot, slot), true);
        }
    }

    private static void bothEmpty() {
        bothWays("both empty", State.filled().with(2, new byte[0]).with(5, new byte[0]), 2, 5, true);
    }

    private static void oneEmpty() {
        bothWays("one empty", State.filled().with(2, new byte[0]), 2, 5, false);
        bothWays("one empty, one a zero", State.filled().with(2, new byte[0]).with(5, new byte[1]), 2, 5, false);
    }

    private static void eachByteCounts() {
        for (int i = 0; i < State.filled().slot(2).length; i++) {
            State state = alike(2, 5).with(5, State.altered(State.filled().slot(2), i, 128));
            bothWays("but for byte " + i, state, 2, 5, false);
        }
    }

    private static void eachBitCounts() {
        for (int bit = 0; bit < 8; bit++) {
            State state = alike(2, 5).with(5, State.altered(State.filled().slot(2), 0, 1 << bit));
            bothWays("but for bit " + bit, state, 2, 5, false);
        }
    }

    /** Two differences that would cancel in a sum or an exclusive or. */
    private static void differencesDoNotCancel() {
        byte[] bytes = State.altered(State.altered(State.filled().slot(2), 0, 1), 1, 1);
        bothWays("two bytes off by the same bit", alike(2, 5).with(5, bytes), 2, 5, false);
    }

    private static void oneIsTheStartOfTheOther() {
        State state = State.filled();
        bothWays("a zero more", state.with(5, Arrays.copyOf(state.slot(2), 16)), 2, 5, false);
        bothWays("a byte fewer", state.with(5, Arrays.copyOf(state.slot(2), 14)), 2, 5, false);
        bothWays("zeros, one more", state.with(2, new byte[7]).with(5, new byte[8]), 2, 5, false);
    }

    private static void bothFull() {
        State state = State.full();
        byte[] bytes = state.slot(2);
        bothWays("full", state.with(5, bytes), 2, 5, true);
        bothWays("but for the last", state.with(5, State.altered(bytes, 8191, 128)), 2, 5, false);
        bothWays("but for the first", state.with(5, State.altered(bytes, 0, 1)), 2, 5, false);
        bothWays("one byte shorter", state.with(5, Arrays.copyOf(bytes, 8191)), 2, 5, false);
    }

    /** What lay behind the end before does not count. */
    private static void cutBytesDoNotCount() {
        ModuleKem x = State.filled().make();
        x.copy(2, 5);
        x.alter(5, 14, 1);
        x.resize(2, 14);
        x.resize(5, 14);
        Checks.due("same(2, 5)", () -> x.same(2, 5), true);
        x.resize(3, 0);
        x.resize(4, 0);
        Checks.due("same(3, 4), both cut to nothing", () -> x.same(3, 4), true);
    }
}
