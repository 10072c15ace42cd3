/** Promise 7: length. */
public final class LengthTest {
    public static void main(String[] args) {
        Checks.run(LengthTest.class);
    }

    /** slot 0 .. 7, the smallest and the largest among them; nothing changes. */
    private static void everySlot() {
        for (int i = 0; i < 8; i++) {
            int slot = i;
            State.filled().stays("length(" + slot + ")", x -> x.length(slot), 13 + slot);
        }
    }

    private static void slotJustBeyondIsRefused() {
        for (int bad : Checks.BAD_SLOTS) {
            State.filled().stays("length(" + bad + ")", x -> x.length(bad), Checks.ARGUMENT);
        }
    }

    private static void emptySlot() {
        State.filled().with(2, new byte[0]).stays("length(2)", x -> x.length(2), 0);
    }

    private static void fullSlot() {
        State.full().stays("length(2)", x -> x.length(2), 8192);
    }

    private static void lengthsAfterEachCallThatSetsThem() {
        ModuleKem x = State.filled().make();
        x.end(0, 40);
        Checks.due("after end", () -> x.length(0), 40);
        x.copy(1, 0);
        Checks.due("after copy", () -> x.length(0), 14);
        x.resize(0, 64);
        Checks.due("after resize", () -> x.length(0), 64);
        x.alter(0, 63, 1);
        Checks.due("after alter", () -> x.length(0), 64);
        x.kemKeys(0);
        Checks.due("PUBLIC after kemKeys", () -> x.length(1), 800);
        Checks.due("SECRET after kemKeys", () -> x.length(2), 1632);
        x.resize(0, 32);
        x.kemWrap(0);
        Checks.due("PACKET after kemWrap", () -> x.length(5), 768);
        Checks.due("SHARED after kemWrap", () -> x.length(6), 32);
        x.resize(6, 0);
        x.kemOpen(0);
        Checks.due("SHARED after kemOpen", () -> x.length(6), 32);
    }
}
