import java.util.Arrays;

/** Promise 3: end. */
public final class EndTest {
    public static void main(String[] args) {
        Checks.run(EndTest.class);
    }

    private static State taken(State before, int slot, int n) {
        return before.with(slot, Arrays.copyOf(before.tape(), n)).withTape(new byte[0]);
    }

    private static void takes(String what, State before, int slot, int n) {
        before.becomes(what + ": end(" + slot + ", " + n + ")", x -> x.end(slot, n), n, taken(before, slot, n));
    }

    /** "slot 0 .. 7": every one, the smallest and the largest among them; the other slots stay. */
    private static void everySlotIsTaken() {
        for (int slot = 0; slot < 8; slot++) {
            takes("each slot", State.filled(), slot, 33);
        }
    }

    private static void slotJustBeyondIsRefused() {
        for (int bad : Checks.BAD_SLOTS) {
            State.filled().stays("end(" + bad + ", 20)", x -> x.end(bad, 20), Checks.ARGUMENT);
        }
    }

    /** "n 0 .. 8192": the smallest. The slot is empty then, and so is the tape. */
    private static void nothingIsTaken() {
        takes("nothing", State.filled(), 4, 0);
    }

    private static void oneIsTaken() {
        takes("one byte", State.filled(), 4, 1);
    }

    private static void nothingIsTakenFromAnEmptyTape() {
        takes("nothing from nothing", State.filled().withTape(new byte[0]), 4, 0);
    }

    private static void nothingIsTakenFromAFullTape() {
        takes("nothing from a full tape", State.full(), 4, 0);
    }

    /** "Its first n BYTES are the SLOT; the TAPE is empty then": the other bytes are gone. */
    private static void lastButOneIsTaken() {
        takes("all but one", State.filled(), 2, 39);
    }

    private static void allIsTaken() {
        takes("all", State.filled(), 2, 40);
    }

    /** "the TAPE has fewer: IndexOutOfBoundsException .. (if that is thrown it stays)". */
    private static void oneMoreThanThereIsIsRefused() {
        State.filled().stays("end(2, 41)", x -> x.end(2, 41), Checks.INDEX);
    }

    private static void oneFromAnEmptyTapeIsRefused() {
        State.filled().withTape(new byte[0]).stays("end(2, 1)", x -> x.end(2, 1), Checks.INDEX);
    }

    /** "n 0 .. 8192": the largest is in range, though no tape can have that many. */
    private static void largestIsNotThere() {
        State.filled().stays("end(2, 8192)", x -> x.end(2, 8192), Checks.INDEX);
        State.full().stays("end(2, 8192) of a full tape", x -> x.end(2, 8192), Checks.INDEX);
    }

    private static void sizeJustBeyondIsRefused() {
        for (int bad : Checks.BAD_SIZES) {
            State.filled().stays("end(2, " + bad + ")", x -> x.end(2, bad), Checks.ARGUMENT);
        }
    }

    private static void fullTapeIsTaken() {
        takes("a full tape", State.full(), 0, 8180);
        takes("a full tape", State.full(), 7, 8179);
    }

    private static void oneMoreThanAFullTapeIsRefused() {
        State.full().stays("end(2, 8181)", x -> x.end(2, 8181), Checks.INDEX);
    }

    /** What is thrown first: a slot out of range, though the tape has too few; a size out of range likewise. */
    private static void rangeIsLookedAtBeforeTheTape() {
        State none = State.filled().withTape(new byte[0]);
        for (int bad : Checks.BAD_SLOTS) {
            none.stays("end(" + bad + ", 1) without a tape", x -> x.end(bad, 1), Checks.ARGUMENT);
            none.stays("end(" + bad + ", 0) without a tape", x -> x.end(bad, 0), Checks.ARGUMENT);
        }
        for (int bad : Checks.BAD_SIZES) {
            none.stays("end(1, " + bad + ") without a tape", x -> x.end(1, bad), Checks.ARGUMENT);
            none.stays("end(-1, " + bad + ") without a tape", x -> x.end(-1, bad), Checks.ARGUMENT);
        }
    }

    /** A tape that stayed can be taken afterwards, and be fed. */
    private static void tapeThatStayedGoesOn() {
        ModuleKem x = State.filled().make();
        Checks.due("end(2, 41)", () -> x.end(2, 41), Checks.INDEX);
        Checks.due("feed", () -> x.feed(1, 2, 3, 4, 5), 60);
        Checks.due("end(2, 41) again", () -> x.end(2, 41), 41);
        Checks.due("feed after that", () -> x.feed(1, 2, 3, 4, 5), 20);
    }

    /** A slot that had 8192 has no byte of them behind its new end. */
    private static void fullSlotIsReplaced() {
        State before = State.filled().with(5, Checks.sparse(Checks.FULL, 77));
        takes("a full slot", before, 5, 3);
        ModuleKem x = before.make();
        x.end(5, 3);
        Checks.due("word(5, 0)", () -> x.word(5, 0), Checks.wordAt(Arrays.copyOf(before.tape(), 3), 0));
        x.resize(5, Checks.FULL);
        Checks.holdsBytes("resized again", x, 5, Arrays.copyOf(Arrays.copyOf(before.tape(), 3), Checks.FULL));
    }
}
