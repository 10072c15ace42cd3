import java.util.Arrays;

/** Promise 2: feed. */
public final class FeedTest {
    public static void main(String[] args) {
        Checks.run(FeedTest.class);
    }

    /** "The 20 BYTES of five ints, the highest of each first": the order of the bytes and of the ints. */
    private static void highestByteOfEachIntComesFirst() {
        ModuleKem x = new ModuleKem();
        Checks.due("feed", () -> x.feed(0x01020304, 0x05060708, 0x090a0b0c, 0x0d0e0f10, 0x11121314), 20);
        Checks.due("end", () -> x.end(3, 20), 20);
        Checks.due("word(3, 0)", () -> x.word(3, 0), 0x0102030405060708L);
        Checks.due("word(3, 8)", () -> x.word(3, 8), 0x090a0b0c0d0e0f10L);
        Checks.due("word(3, 16)", () -> x.word(3, 16), 0x1112131400000000L);
    }

    /** Any int is taken: the smallest, the largest, and those on both sides of 0. */
    private static void smallestAndLargestInts() {
        ModuleKem x = new ModuleKem();
        Checks.due("feed", () -> x.feed(Integer.MIN_VALUE, Integer.MAX_VALUE, -1, 0, 1), 20);
        Checks.due("end", () -> x.end(3, 20), 20);
        Checks.due("word(3, 0)", () -> x.word(3, 0), 0x800000007fffffffL);
        Checks.due("word(3, 8)", () -> x.word(3, 8), 0xffffffff00000000L);
        Checks.due("word(3, 16)", () -> x.word(3, 16), 0x0000000100000000L);
    }

    /** "come to the TAPE": behind what it has. */
    private static void bytesComeBehindThoseBefore() {
        State before = State.filled();
        byte[] more = {0, 0, 0, 6, 0, 0, 0, 7, 0, 0, 0, 8, 0, 0, 0, 9, 0, 0, 0, 10};
        State after = before.withTape(Reference.join(before.tape(), more));
        before.becomes("feed", x -> x.feed(6, 7, 8, 9, 10), 60, after);
    }

    /** "Answers its length." */
    private static void answersTheLengthUpToTheFullTape() {
        ModuleKem x = new ModuleKem();
        for (int i = 1; i <= 409; i++) {
            int n = i;
            Checks.due("feed number " + n, () -> x.feed(n, n, n, n, n), 20 * n);
        }
        Checks.due("end of the full tape", () -> x.end(0, 8180), 8180);
        Checks.due("the first fed", () -> x.word(0, 0), 1L << 32 | 1);
        Checks.due("the last fed", () -> x.word(0, 8172), 409L << 32 | 409);
    }

    /** The last 20 that fit: from 8160 to 8180. */
    private static void lastThatFits() {
        byte[] tape = Checks.sparse(8160, 5);
        byte[] more = {-1, -1, -1, -1, 0, 0, 0, 7, 0, 0, 0, 8, 0, 0, 0, 9, 127, 0, 0, 1};
        State before = State.filled().withTape(tape);
        State after = before.withTape(Reference.join(tape, more));
        before.becomes("feed at 8160", x -> x.feed(-1, 7, 8, 9, 0x7f000001), 8180, after);
    }

    /** "it would have more than 8192: IndexOutOfBoundsException", and nothing changes, not even by the 12 that fit. */
    private static void oneTooManyIsRefused() {
        State.full().stays("feed at 8180", x -> x.feed(-1, -1, -1, -1, -1), Checks.INDEX);
    }

    private static void oneTooManyIsRefusedAgainAndAgain() {
        ModuleKem x = State.empty().withTape(new byte[Checks.FULL_TAPE]).make();
        for (int i = 0; i < 50; i++) {
            Checks.due("feed at 8180, time " + i, () -> x.feed(-1, -1, -1, -1, -1), Checks.INDEX);
        }
        Checks.due("end(0, 8181)", () -> x.end(0, 8181), Checks.INDEX);
        Checks.due("end(0, 8180)", () -> x.end(0, 8180), 8180);
        Checks.due("the last bytes", () -> x.word(0, 8172), 0L);
    }

    /** The tape is empty after end, and takes as much as a new one, of which nothing is left of the old. */
    private static void fullTapeTakesAgainAfterEnd() {
        byte[] old = new byte[Checks.FULL_TAPE];
        Arrays.fill(old, (byte) 255);
        ModuleKem x = State.empty().withTape(old).make();
        Checks.due("end(0, 0)", () -> x.end(0, 0), 0);
        Checks.due("feed", () -> x.feed(1, 2, 3, 4, 5), 20);
        Checks.due("end(0, 21)", () -> x.end(0, 21), Checks.INDEX);
        Checks.due("end(0, 20)", () -> x.end(0, 20), 20);
        Checks.due("word(0, 16)", () -> x.word(0, 16), 5L << 32);
    }
}
