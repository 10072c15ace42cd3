import java.util.Arrays;

/** Promise 10: kemKeys, and the block KEYS in "Terms". */
public final class KeysTest {
    private static final int[] SECRET_SIZES = {1632, 2400, 3168};
    private static final int[] PUBLIC_SIZES = {800, 1184, 1568};

    public static void main(String[] args) {
        Checks.run(KeysTest.class);
    }

    private static void makes(String what, State before, Example example) {
        int set = example.set;
        State after = before.with(Example.PUBLIC, example.publicKey).with(Example.SECRET, example.secretKey);
        before.becomes(what + ": kemKeys(" + set + ")", x -> x.kemKeys(set), SECRET_SIZES[set], after);
    }

    private static void makesOn(ModuleKem x, Example example) {
        Checks.due("kemKeys(" + example.set + ")", () -> x.kemKeys(example.set), SECRET_SIZES[example.set]);
        Checks.holdsBytes("PUBLIC", x, Example.PUBLIC, example.publicKey);
        Checks.holdsBytes("SECRET", x, Example.SECRET, example.secretKey);
    }

    /** "set 0 .. 2": each of them. PUBLIC and SECRET alone change: RANDOM, the other slots and the tape stay. */
    private static void everySetIsTaken() {
        for (int set = 0; set < 3; set++) {
            makes("each set", Example.of(set, 0).beforeKeys(), Example.of(set, 0));
        }
    }

    private static void setJustBeyondIsRefused() {
        for (int bad : Checks.BAD_SETS) {
            Example.of(0, 0).beforeKeys().stays("kemKeys(" + bad + ")", x -> x.kemKeys(bad), Checks.ARGUMENT);
        }
    }

    private static void refusesRandom(byte[] random) {
        for (int i = 0; i < 3; i++) {
            int set = i;
            State.filled().with(Example.RANDOM, random).stays("kemKeys(" + set + "), RANDOM of " + random.length,
                    x -> x.kemKeys(set), Checks.STATE);
        }
    }

    /** "RANDOM has not 64 BYTES: IllegalStateException": none, one fewer, one more, as many as it can have. */
    private static void emptyRandomIsRefused() {
        refusesRandom(new byte[0]);
    }

    private static void randomOfOneByteLessIsRefused() {
        refusesRandom(Checks.bytesOf(7, 63));
    }

    private static void randomOfOneByteMoreIsRefused() {
        refusesRandom(Checks.bytesOf(7, 65));
    }

    /** As many as kemWrap takes. */
    private static void randomOf32BytesIsRefused() {
        refusesRandom(Checks.bytesOf(7, 32));
    }

    private static void fullRandomIsRefused() {
        refusesRandom(Checks.sparse(Checks.FULL, 7));
    }

    /** What is thrown first where both are wrong. */
    private static void rangeOfTheSetIsLookedAtBeforeRandom() {
        for (int bad : Checks.BAD_SETS) {
            for (int n : new int[] {0, 63, 65}) {
                State.filled().with(Example.RANDOM, Checks.bytesOf(7, n)).stays("kemKeys(" + bad + "), RANDOM of " + n,
                        x -> x.kemKeys(bad), Checks.ARGUMENT);
            }
        }
    }

    /** "KEM KEYS of its halves": the smallest and the largest bytes in each. */
    private static void randomOfZerosAndOfOnes() {
        for (int set = 0; set < 3; set++) {
            for (int i = 0; i < 4; i++) {
                byte[] random = Reference.join(Checks.bytesOf(i % 2 * 255, 32), Checks.bytesOf(i / 2 * 255, 32));
                Example example = new Example(set, random, new byte[32]);
                makes("zeros or ones", example.beforeKeys(), example);
            }
        }
    }

    /** z is the second half: by its first and its last byte nothing changes but the last 32 bytes of D. */
    private static void secondHalfIsOnlyTheEndOfSecret() {
        for (int set = 0; set < 3; set++) {
            Example example = Example.of(set, 1);
            for (int i : new int[] {0, 31}) {
                byte[] random = State.altered(example.random, 32 + i, 255);
                byte[] secret = State.altered(example.secretKey, SECRET_SIZES[set] - 32 + i, 255);
                State before = example.beforeKeys().with(Example.RANDOM, random);
                State after = before.with(Example.PUBLIC, example.publicKey).with(Example.SECRET, secret);
                int number = set;
                before.becomes("z altered at " + i, x -> x.kemKeys(number), SECRET_SIZES[set], after);
            }
        }
    }

    /** d is the first half: its first and its last bit change P. */
    private static void firstHalfChangesAll() {
        for (int set = 0; set < 3; set++) {
            Example example = Example.of(set, 2);
            for (int i : new int[] {0, 31}) {
                byte[] random = State.altered(example.random, i, i == 0 ? 1 : 128);
                Example other = new Example(set, random, example.message);
                Checks.holds("P is another", !Arrays.equals(other.publicKey, example.publicKey));
                makes("d altered at " + i, other.beforeKeys(), other);
            }
        }
    }

    /** "r | s = SHA3-512(d | k)": the same RANDOM gives another r in each set. */
    private static void setsHaveSeedsOfTheirOwn() {
        ModuleKem x = State.empty().with(Example.RANDOM, Example.of(0, 3).random).make();
        for (int set = 0; set < 3; set++) {
            x.kemKeys(set);
            int k = Reference.K[set];
            byte[] d = Reference.part(Example.of(0, 3).random, 0, 32);
            byte[] r = Reference.sha3(512, Reference.join(d, Reference.one(k)));
            Checks.due("r of set " + set, () -> x.word(1, 384 * k), Checks.wordAt(r, 0));
        }
    }

    /** Slots that were empty, and slots that were full: no byte of those lies behind the new end. */
    private static void emptySlotsAreReplaced() {
        for (int set = 0; set < 3; set++) {
            Example example = Example.of(set, 4);
            makes("empty slots", example.beforeKeys().with(Example.PUBLIC, new byte[0])
                    .with(Example.SECRET, new byte[0]), example);
        }
    }

    private static void fullSlotsAreReplaced() {
        for (int set = 0; set < 3; set++) {
            Example example = Example.of(set, 5);
            State before = example.beforeKeys().with(Example.PUBLIC, Checks.sparse(Checks.FULL, 9))
                    .with(Example.SECRET, Checks.sparse(Checks.FULL, 3));
            makes("full slots", before, example);
            ModuleKem x = before.make();
            x.kemKeys(set);
            x.resize(Example.PUBLIC, Checks.FULL);
            x.resize(Example.SECRET, Checks.FULL);
            for (int i = PUBLIC_SIZES[set]; i + 8 <= Checks.FULL; i += 82) {
                int at = i;
                Checks.due("behind P", () -> x.word(Example.PUBLIC, at), 0L);
            }
            for (int i = SECRET_SIZES[set]; i + 8 <= Checks.FULL; i += 82) {
                int at = i;
                Checks.due("behind D", () -> x.word(Example.SECRET, at), 0L);
            }
            Checks.due("the last byte behind P", () -> x.word(Example.PUBLIC, 8191), 0L);
            Checks.due("the last byte behind D", () -> x.word(Example.SECRET, 8191), 0L);
        }
    }

    /** The sets one after the other on one object: nothing of the larger one is left in the smaller one. */
    private static void setsOneAfterTheOther() {
        for (int first = 0; first < 3; first++) {
            for (int set = 0; set < 3; set++) {
                Example example = Example.of(set, 6);
                ModuleKem x = example.beforeKeys().make();
                x.kemKeys(first);
                makesOn(x, example);
            }
        }
    }

    private static void keysOfManySeeds() {
        for (int set = 0; set < 3; set++) {
            for (int i = 10; i < 40; i++) {
                makesOn(Example.of(set, i).beforeKeys().make(), Example.of(set, i));
            }
        }
    }

    /** Every number in P is below q, so that kemWrap takes what kemKeys made. */
    private static void keysAreTakenByWrapAndOpen() {
        for (int i = 0; i < 3; i++) {
            int set = i;
            ModuleKem x = Example.of(set, 7).beforeKeys().make();
            x.kemKeys(set);
            x.resize(Example.RANDOM, 32);
            Checks.due("kemWrap", () -> x.kemWrap(set), Reference.packetSize(set));
            Checks.due("kemOpen", () -> x.kemOpen(set), 1);
        }
    }
}
