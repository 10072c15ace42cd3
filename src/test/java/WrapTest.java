import java.util.Arrays;

/** Promise 11: kemWrap, and the block WRAP in "Terms". */
public final class WrapTest {
    private static final int[] PACKET_SIZES = {768, 1088, 1568};
    private static final int[] PUBLIC_SIZES = {800, 1184, 1568};
    private static final int Q = 3329;

    public static void main(String[] args) {
        Checks.run(WrapTest.class);
    }

    private static void wraps(String what, State before, int set) {
        byte[][] wrapped = Reference.wrap(set, before.slot(Example.PUBLIC), before.slot(Example.RANDOM));
        State after = before.with(Example.PACKET, wrapped[0]).with(Example.SHARED, wrapped[1]);
        before.becomes(what + ": kemWrap(" + set + ")", x -> x.kemWrap(set), PACKET_SIZES[set], after);
    }

    private static void wrapsOn(ModuleKem x, int set, byte[] packet, byte[] key) {
        Checks.due("kemWrap(" + set + ")", () -> x.kemWrap(set), PACKET_SIZES[set]);
        Checks.holdsBytes("SHARED", x, Example.SHARED, key);
        Checks.holdsBytes("PACKET", x, Example.PACKET, packet);
    }

    private static void refuses(String what, State before, int set, String exception) {
        before.stays(what + ": kemWrap(" + set + ")", x -> x.kemWrap(set), exception);
    }

    /** "set 0 .. 2": each of them. PACKET and SHARED alone change: RANDOM, PUBLIC and the others stay. */
    private static void everySetIsTaken() {
        for (int set = 0; set < 3; set++) {
            wraps("each set", Example.of(set, 0).beforeWrap(), set);
        }
    }

    private static void setJustBeyondIsRefused() {
        for (int bad : Checks.BAD_SETS) {
            refuses("beyond", Example.of(0, 0).beforeWrap(), bad, Checks.ARGUMENT);
        }
    }

    private static void refusesRandom(byte[] random) {
        for (int set = 0; set < 3; set++) {
            State before = Example.of(set, 1).beforeWrap().with(Example.RANDOM, random);
            refuses("RANDOM of " + random.length, before, set, Checks.STATE);
        }
    }

    /** "RANDOM has not 32 BYTES: IllegalStateException": none, one fewer, one more, as many as it can have. */
    private static void emptyRandomIsRefused() {
        refusesRandom(new byte[0]);
    }

    private static void randomOfOneByteLessIsRefused() {
        refusesRandom(Checks.bytesOf(7, 31));
    }

    private static void randomOfOneByteMoreIsRefused() {
        refusesRandom(Checks.bytesOf(7, 33));
    }

    /** As many as kemKeys takes. */
    private static void randomOf64BytesIsRefused() {
        refusesRandom(Checks.bytesOf(7, 64));
    }

    private static void fullRandomIsRefused() {
        refusesRandom(Checks.sparse(Checks.FULL, 7));
    }

    private static void refusesPublic(String what, int set, byte[] publicKey) {
        State before = Example.of(set, 2).beforeWrap().with(Example.PUBLIC, publicKey);
        refuses(what, before, set, Checks.MALFORMED);
    }

    /** "PUBLIC has not 384 k + 32 .. : UnsupportedOperationException": none, one fewer, one more, and so on. */
    private static void emptyPublicIsRefused() {
        for (int set = 0; set < 3; set++) {
            refusesPublic("an empty PUBLIC", set, new byte[0]);
        }
    }

    private static void publicOfOneByteLessIsRefused() {
        for (int set = 0; set < 3; set++) {
            byte[] p = Example.of(set, 2).publicKey;
            refusesPublic("PUBLIC without its last byte", set, Arrays.copyOf(p, p.length - 1));
        }
    }

    private static void publicOfOneByteMoreIsRefused() {
        for (int set = 0; set < 3; set++) {
            byte[] p = Example.of(set, 2).publicKey;
            refusesPublic("PUBLIC with a zero behind it", set, Arrays.copyOf(p, p.length + 1));
        }
    }

    private static void publicOfAnotherSetIsRefused() {
        for (int set = 0; set < 3; set++) {
            refusesPublic("PUBLIC of another set", set, Example.of((set + 1) % 3, 2).publicKey);
            refusesPublic("PUBLIC of another set", set, Example.of((set + 2) % 3, 2).publicKey);
        }
    }

    private static void fullPublicIsRefused() {
        for (int set = 0; set < 3; set++) {
            refusesPublic("a full PUBLIC", set, new byte[Checks.FULL]);
        }
    }

    /** "or a number of 12 bits in it is q or more": q itself, at the first, the last and other numbers. */
    private static void numberOfQIsRefused() {
        refusesNumber(Q);
    }

    private static void numberOfQAndOneIsRefused() {
        refusesNumber(Q + 1);
    }

    private static void largestNumberIsRefused() {
        refusesNumber(4095);
    }

    private static void refusesNumber(int value) {
        for (int set = 0; set < 3; set++) {
            int last = 256 * Reference.K[set] - 1;
            for (int place : new int[] {0, 1, 255, 256, last - 1, last}) {
                byte[] p = Example.withNumber(Example.of(set, 2).publicKey, place, value);
                refusesPublic("number " + place + " is " + value, set, p);
            }
        }
    }

    /** The one just below q is taken, at the same numbers, and at all of them at once. */
    private static void numberBelowQIsTaken() {
        for (int set = 0; set < 3; set++) {
            Example example = Example.of(set, 3);
            int last = 256 * Reference.K[set] - 1;
            for (int place : new int[] {0, 1, 255, 256, last - 1, last}) {
                byte[] p = Example.withNumber(example.publicKey, place, Q - 1);
                wraps("number " + place + " is q - 1", example.beforeWrap().with(Example.PUBLIC, p), set);
            }
        }
    }

    private static void smallestNumberIsTaken() {
        for (int set = 0; set < 3; set++) {
            Example example = Example.of(set, 3);
            int last = 256 * Reference.K[set] - 1;
            for (int place : new int[] {0, last}) {
                byte[] p = Example.withNumber(example.publicKey, place, 0);
                wraps("number " + place + " is 0", example.beforeWrap().with(Example.PUBLIC, p), set);
            }
        }
    }

    private static void allNumbersBelowQAreTaken() {
        for (int set = 0; set < 3; set++) {
            byte[] p = Example.of(set, 3).publicKey;
            for (int place = 0; place < 256 * Reference.K[set]; place++) {
                p = Example.withNumber(p, place, Q - 1);
            }
            wraps("all numbers q - 1", Example.of(set, 3).beforeWrap().with(Example.PUBLIC, p), set);
        }
    }

    private static void publicOfZerosIsTaken() {
        for (int set = 0; set < 3; set++) {
            State before = Example.of(set, 3).beforeWrap().with(Example.PUBLIC, new byte[PUBLIC_SIZES[set]]);
            wraps("zeros", before, set);
        }
    }

    /** No number is left out: q at each place in turn is refused, and with it set right again the key is taken. */
    private static void everyNumberIsLookedAt() {
        for (int i = 0; i < 3; i++) {
            int set = i;
            byte[] p = Example.of(set, 4).publicKey;
            int numbers = 256 * Reference.K[set];
            for (int from = 0; from < numbers; from += 32) {
                ModuleKem x = Example.of(set, 4).beforeWrap().make();
                for (int place = from; place < from + 32; place++) {
                    byte[] spoilt = Example.withNumber(p, place, Q);
                    int at = 12 * place / 8;
                    x.alter(Example.PUBLIC, at, (p[at] ^ spoilt[at]) & 255);
                    x.alter(Example.PUBLIC, at + 1, (p[at + 1] ^ spoilt[at + 1]) & 255);
                    Checks.due("number " + place + " is q", () -> x.kemWrap(set), Checks.MALFORMED);
                    x.alter(Example.PUBLIC, at, (p[at] ^ spoilt[at]) & 255);
                    x.alter(Example.PUBLIC, at + 1, (p[at + 1] ^ spoilt[at + 1]) & 255);
                }
                wrapsOn(x, set, Example.of(set, 4).packet, Example.of(set, 4).key);
            }
        }
    }

    /** The 32 bytes behind the numbers are no numbers: they may all be ones. */
    private static void seedOfOnesIsTaken() {
        for (int set = 0; set < 3; set++) {
            byte[] p = Example.of(set, 5).publicKey;
            Arrays.fill(p, p.length - 32, p.length, (byte) 255);
            wraps("a seed of ones", Example.of(set, 5).beforeWrap().with(Example.PUBLIC, p), set);
        }
    }

    /** What is thrown first: a set out of range, though RANDOM and PUBLIC are wrong, too. */
    private static void rangeOfTheSetIsLookedAtFirst() {
        State wrong = State.filled().with(Example.RANDOM, new byte[31]).with(Example.PUBLIC, new byte[799]);
        for (int bad : Checks.BAD_SETS) {
            refuses("RANDOM and PUBLIC wrong", wrong, bad, Checks.ARGUMENT);
            refuses("RANDOM wrong", Example.of(2, 6).beforeWrap().with(Example.RANDOM, new byte[31]), bad,
                    Checks.ARGUMENT);
            refuses("PUBLIC wrong", Example.of(2, 6).beforeWrap().with(Example.PUBLIC, new byte[31]), bad,
                    Checks.ARGUMENT);
        }
    }

    /** Then RANDOM, though PUBLIC is wrong by its length or by a number. */
    private static void randomIsLookedAtBeforePublic() {
        for (int set = 0; set < 3; set++) {
            for (int n : new int[] {0, 31, 33, 64}) {
                State wrong = Example.of(set, 6).beforeWrap().with(Example.RANDOM, Checks.bytesOf(9, n));
                byte[] p = wrong.slot(Example.PUBLIC);
                refuses("PUBLIC empty", wrong.with(Example.PUBLIC, new byte[0]), set, Checks.STATE);
                refuses("PUBLIC one more", wrong.with(Example.PUBLIC, new byte[p.length + 1]), set, Checks.STATE);
                refuses("a number of q", wrong.with(Example.PUBLIC, Example.withNumber(p, 0, Q)), set, Checks.STATE);
            }
        }
    }

    /** The message: the smallest and the largest bytes. */
    private static void messageOfZerosAndOfOnes() {
        for (int set = 0; set < 3; set++) {
            for (int value : new int[] {0, 255}) {
                State before = Example.of(set, 7).beforeWrap().with(Example.RANDOM, Checks.bytesOf(value, 32));
                wraps("bytes of " + value, before, set);
            }
        }
    }

    private static void eachBitOfTheMessageCounts() {
        for (int set = 0; set < 3; set++) {
            Example example = Example.of(set, 7);
            for (int bit = 0; bit < 256; bit += 17) {
                byte[] message = State.altered(example.message, bit / 8, 1 << bit % 8);
                ModuleKem x = example.beforeWrap().with(Example.RANDOM, message).make();
                byte[][] wrapped = Reference.wrap(set, example.publicKey, message);
                wrapsOn(x, set, wrapped[0], wrapped[1]);
            }
        }
    }

    /** Slots that were empty, and slots that were full: no byte of those lies behind the new end. */
    private static void emptySlotsAreReplaced() {
        for (int set = 0; set < 3; set++) {
            wraps("empty slots", Example.of(set, 8).beforeWrap().with(Example.PACKET, new byte[0])
                    .with(Example.SHARED, new byte[0]), set);
        }
    }

    private static void fullSlotsAreReplaced() {
        for (int set = 0; set < 3; set++) {
            State before = Example.of(set, 8).beforeWrap().with(Example.PACKET, Checks.sparse(Checks.FULL, 9))
                    .with(Example.SHARED, Checks.sparse(Checks.FULL, 3));
            wraps("full slots", before, set);
            ModuleKem x = before.make();
            x.kemWrap(set);
            x.resize(Example.PACKET, Checks.FULL);
            x.resize(Example.SHARED, Checks.FULL);
            Checks.holdsBytes("behind the key", x, Example.SHARED,
                    Arrays.copyOf(Example.of(set, 8).key, Checks.FULL));
            for (int i = PACKET_SIZES[set]; i + 8 <= Checks.FULL; i += 82) {
                int at = i;
                Checks.due("behind the ciphertext", () -> x.word(Example.PACKET, at), 0L);
            }
            Checks.due("the last byte behind it", () -> x.word(Example.PACKET, 8191), 0L);
        }
    }

    /** SECRET is not asked for. */
    private static void emptySecretIsFine() {
        for (int set = 0; set < 3; set++) {
            wraps("an empty SECRET", Example.of(set, 9).beforeWrap().with(Example.SECRET, new byte[0]), set);
        }
    }

    private static void packetsOfManyKeys() {
        for (int set = 0; set < 3; set++) {
            for (int number = 10; number < 40; number++) {
                Example example = Example.of(set, number);
                wrapsOn(example.beforeWrap().make(), set, example.packet, example.key);
            }
        }
    }

    /** On one object, set after set, and the same one again: nothing is left of what was wrapped before. */
    private static void setsOneAfterTheOther() {
        for (int first = 0; first < 3; first++) {
            for (int set = 0; set < 3; set++) {
                Example before = Example.of(first, 41);
                Example example = Example.of(set, 42);
                ModuleKem x = before.beforeWrap().withTape(new byte[0]).make();
                x.kemWrap(first);
                Checks.put(x, Example.PUBLIC, example.publicKey);
                Checks.put(x, Example.RANDOM, example.message);
                wrapsOn(x, set, example.packet, example.key);
            }
        }
    }
}
