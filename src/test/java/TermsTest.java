import java.util.Arrays;
import java.util.Random;
import java.util.Set;
import java.util.TreeSet;

/**
 * The edges inside SAMPLE, CBD, COMPRESS and DECOMPRESS of "Terms", as the calls show them. Each test first makes
 * sure, by Reference, that its keys and packets come to the edge.
 */
public final class TermsTest {
    private static final int Q = 3329;
    private static final int TRIES = 3000;

    /** The t of Crafted with which what OPEN finds comes as close to q / 4 as it can; s is 1. */
    private static final int[] CLOSE = {243, 364, 392};

    public static void main(String[] args) {
        Checks.run(TermsTest.class);
    }

    private interface Edge {
        /** Of all numbers of a stream, and how many of them SAMPLE looks at until there are 256. */
        boolean isThere(int[] numbers, int looked);
    }

    private static int[] numbers(byte[] x) {
        byte[] stream = Reference.shake128(x, 840);
        int[] numbers = new int[560];
        for (int i = 0; i < 560; i++) {
            for (int bit = 0; bit < 12; bit++) {
                numbers[i] |= Reference.bit(stream, 12 * i + bit) << bit;
            }
        }
        return numbers;
    }

    private static int looked(int[] numbers) {
        int taken = 0;
        int looked = 0;
        while (taken < 256) {
            taken += numbers[looked] < Q ? 1 : 0;
            looked++;
        }
        return looked;
    }

    private static boolean comesTo(int set, byte[] seed, Edge edge) {
        for (int i = 0; i < Reference.K[set]; i++) {
            for (int j = 0; j < Reference.K[set]; j++) {
                int[] numbers = numbers(Reference.join(seed, Reference.one(j), Reference.one(i)));
                if (edge.isThere(numbers, looked(numbers))) {
                    return true;
                }
            }
        }
        return false;
    }

    /** Wraps with a seed in PUBLIC of which a polynomial comes to the edge. */
    private static void samples(String what, Edge edge) {
        for (int i = 0; i < 3; i++) {
            int set = i;
            Random random = new Random(set);
            byte[] seed = Checks.randomBytes(random, 32);
            int tries = 0;
            while (tries < TRIES && !comesTo(set, seed, edge)) {
                seed = Checks.randomBytes(random, 32);
                tries++;
            }
            Checks.holds(what + " is there", comesTo(set, seed, edge));
            byte[] p = Reference.join(Reference.part(Example.of(set, 0).publicKey, 0, 384 * Reference.K[set]), seed);
            wraps(what, set, p, Example.of(set, 0).message);
        }
    }

    private static void wraps(String what, int set, byte[] p, byte[] message) {
        byte[][] wrapped = Reference.wrap(set, p, message);
        ModuleKem x = State.empty().with(Example.RANDOM, message).with(Example.PUBLIC, p).make();
        Checks.due(what + ": kemWrap(" + set + ")", () -> x.kemWrap(set), Reference.packetSize(set));
        Checks.holdsBytes(what + ": SHARED", x, Example.SHARED, wrapped[1]);
        Checks.holdsBytes(what + ": PACKET", x, Example.PACKET, wrapped[0]);
    }

    private static boolean has(int[] numbers, int looked, int start, int value) {
        for (int i = start; i < looked; i += 2) {
            if (numbers[i] == value) {
                return true;
            }
        }
        return false;
    }

    /** "each that is below q is the next coefficient": q - 1 is, as the first and as the second of three bytes. */
    private static void sampleTakesQLessOne() {
        samples("q - 1 as the first", (numbers, looked) -> has(numbers, looked, 0, Q - 1));
        samples("q - 1 as the second", (numbers, looked) -> has(numbers, looked, 1, Q - 1));
    }

    private static void sampleLeavesQ() {
        samples("q as the first", (numbers, looked) -> has(numbers, looked, 0, Q));
        samples("q as the second", (numbers, looked) -> has(numbers, looked, 1, Q));
    }

    private static void sampleTakesZeroAndLeavesTheLargest() {
        samples("0", (numbers, looked) -> has(numbers, looked, 0, 0) || has(numbers, looked, 1, 0));
        samples("4095", (numbers, looked) -> has(numbers, looked, 0, 4095) || has(numbers, looked, 1, 4095));
    }

    /** "until there are 256": the first number of three bytes is the last coefficient, and the second would do, too. */
    private static void sampleEndsWithTheFirstOfThreeBytes() {
        samples("an end at the first", (numbers, looked) -> looked % 2 == 1 && numbers[looked] < Q);
    }

    private static void sampleEndsWithTheSecondOfThreeBytes() {
        samples("an end at the second", (numbers, looked) -> looked % 2 == 0 && numbers[looked] < Q);
    }

    /** Three blocks of SHAKE128 have 336 numbers: a fourth is needed for one more, and not for the last of these. */
    private static void sampleEndsWithABlock() {
        samples("an end at the last number of a block", (numbers, looked) -> looked == 336);
    }

    private static void sampleNeedsAnotherBlock() {
        samples("an end in the fourth block", (numbers, looked) -> looked > 336);
    }

    /** "the sum of bits .. minus that of the next e": the largest, e, and the smallest, -e, which counts modulo q. */
    private static void noiseOfAllOnesAndOfAllZeros() {
        for (int i = 0; i < 3; i++) {
            int set = i;
            int k = Reference.K[set];
            Example example = Example.of(set, 2);
            byte[] s = Reference.part(Reference.sha3(512, Reference.join(Reference.part(example.random, 0, 32),
                    Reference.one(k))), 32, 32);
            comesToBothEnds(Reference.noise(Reference.E1[set], s, 0), Reference.E1[set]);
            comesToBothEnds(Reference.noise(Reference.E1[set], s, 2 * k - 1), Reference.E1[set]);
            ModuleKem x = State.empty().with(Example.RANDOM, example.random).make();
            Checks.due("kemKeys", () -> x.kemKeys(set), Reference.secretSize(set));
            Checks.holdsBytes("SECRET", x, Example.SECRET, example.secretKey);
            byte[] r = Reference.part(Reference.keyAndSeed(example.publicKey, example.message), 32, 32);
            comesToBothEnds(Reference.noise(Reference.E1[set], r, 0), Reference.E1[set]);
            comesToBothEnds(Reference.noise(2, r, k), 2);
            comesToBothEnds(Reference.noise(2, r, 2 * k), 2);
            wraps("noise", set, example.publicKey, example.message);
        }
    }

    private static void comesToBothEnds(int[] noise, int e) {
        Checks.holds("a coefficient is " + e, Arrays.stream(noise).anyMatch(v -> v == e));
        Checks.holds("a coefficient is -" + e, Arrays.stream(noise).anyMatch(v -> v == Q - e));
    }

    /** T 0 a number and the other T 0: V is then that number times Y 0, and the noise G, and the message. */
    private static byte[] publicKeyOf(int set, int number) {
        int[] t = new int[256];
        t[0] = number;
        byte[] seed = Checks.bytesOf(set, 32);
        return Reference.join(Reference.bits(Reference.ntt(t), 12), new byte[384 * (Reference.K[set] - 1)], seed);
    }

    private static int[][] encrypted(int set, byte[] p, byte[] message) {
        return Reference.encrypted(set, p, message, Reference.part(Reference.keyAndSeed(p, message), 32, 32));
    }

    /** The smallest x with 2^d x / q at least y - 1/2. */
    private static int firstOf(int y, int d) {
        int x = 0;
        while (2 * (x << d) < (2 * y - 1) * Q) {
            x++;
        }
        return x;
    }

    private static boolean contains(int[] f, int value) {
        return Arrays.stream(f).anyMatch(v -> v == value);
    }

    /** "the nearest whole number to 2^d x / q": the last x below each step, and the first above it, in V. */
    private static void compressStepsOfV() {
        for (int set = 0; set < 3; set++) {
            for (int y = 1; y < 1 << Reference.DV[set]; y++) {
                compressesV(set, y);
            }
        }
    }

    /** "modulo 2^d": the last step leads from 2^d - 1 to 0. */
    private static void compressWrapsAroundInV() {
        for (int set = 0; set < 3; set++) {
            int d = Reference.DV[set];
            int first = firstOf(1 << d, d);
            Checks.holds("0 behind the last step", Reference.compress(d, first) == 0);
            Checks.holds("the largest before it", Reference.compress(d, first - 1) == (1 << d) - 1);
            compressesV(set, 1 << d);
        }
    }

    private static void compressesV(int set, int y) {
        int first = firstOf(y, Reference.DV[set]);
        byte[] p = publicKeyOf(set, first);
        byte[] message = new byte[32];
        int[] v = encrypted(set, p, message)[Reference.K[set]];
        Checks.holds(first + " is there", contains(v, first));
        Checks.holds(first - 1 + " is there", contains(v, first - 1));
        wraps("step to " + y, set, p, message);
    }

    /** In U, which only chance makes: the first step, and the last two x, of which q - 1 wraps around if d is 10. */
    private static void compressStepsAndWrapsAroundInU() {
        Checks.holds("COMPRESS 10 of q - 1", Reference.compress(10, Q - 1) == 0);
        Checks.holds("COMPRESS 10 of q - 2", Reference.compress(10, Q - 2) == 1023);
        Checks.holds("COMPRESS 11 of q - 1", Reference.compress(11, Q - 1) == 2047);
        for (int set = 0; set < 3; set++) {
            Set<Integer> seen = new TreeSet<>();
            for (int i = 0; i < 40; i++) {
                Example example = Example.of(set, 100 + i);
                int[][] polynomials = encrypted(set, example.publicKey, example.message);
                for (int j = 0; j < Reference.K[set]; j++) {
                    Arrays.stream(polynomials[j]).forEach(seen::add);
                }
                wraps("U by chance", set, example.publicKey, example.message);
            }
            for (int x : new int[] {0, 1, 2, Q - 2, Q - 1}) {
                Checks.holds(x + " is there in set " + set, seen.contains(x));
            }
        }
    }

    /** "DECOMPRESS 1 of the bits of m": q / 2 is 1664 and a half, and goes up; with 1664 PACKET would be another. */
    private static void decompressOfAMessageGoesUp() {
        for (int set = 0; set < 3; set++) {
            int d = Reference.DV[set];
            int y = (1 << d) / 2 + 2;
            byte[] p = publicKeyOf(set, firstOf(y, d) - 1665);
            byte[] message = Checks.bytesOf(255, 32);
            int[] v = encrypted(set, p, message)[Reference.K[set]];
            Checks.holds("a coefficient with 1664 would be another",
                    Arrays.stream(v).anyMatch(x -> Reference.compress(d, x) != Reference.compress(d, x - 1)));
            wraps("a message of ones", set, p, message);
        }
    }

    private static void opensCrafted(String what, int set, Crafted crafted) {
        ModuleKem x = State.empty().with(Example.SECRET, crafted.secretKey).with(Example.PACKET, crafted.packet).make();
        Checks.due(what + ": kemOpen(" + set + ")", () -> x.kemOpen(set), 1);
        Checks.holdsBytes(what + ": SHARED", x, Example.SHARED, crafted.key);
    }

    /** COMPRESS 1: what OPEN finds is the last number, or the first, that is a 0 or a 1. */
    private static void finds(int value, int bit, int[] numbers) {
        Checks.holds("COMPRESS 1 of " + value, Reference.compress(1, value) == bit);
        for (int set = 0; set < 3; set++) {
            Crafted crafted = new Crafted(set, 1, CLOSE[set], numbers[set]);
            int[][] uv = Reference.decompressed(set, crafted.packet);
            Checks.holds(value + " is found", contains(Reference.found(set, crafted.secretKey, uv), value));
            opensCrafted("a " + bit + " of " + value, set, crafted);
        }
    }

    private static void compress1Of832IsA0() {
        finds(832, 0, new int[] {37, 0, 3});
    }

    private static void compress1Of833IsA1() {
        finds(833, 1, new int[] {798, 7, 31});
    }

    private static void compress1Of2496IsA1() {
        finds(2496, 1, new int[] {79, 100, 60});
    }

    /** "modulo 2^d": 2 is 0. */
    private static void compress1Of2497IsA0Again() {
        finds(2497, 0, new int[] {54, 38, 65});
    }

    /** "DECOMPRESS d (y): that to q y / 2^d (halves up)": 2^(d - 1) is the one y with a half, and 1665 is due. */
    private static void halvesOfUGoUp() {
        int[] numbers = {850, 342, 140};
        for (int set = 0; set < 3; set++) {
            halvesGoUp(set, 0, Reference.DU[set], numbers[set]);
        }
    }

    private static void halvesOfVGoUp() {
        int[] numbers = {200, 7, 582};
        for (int set = 0; set < 3; set++) {
            halvesGoUp(set, Reference.K[set], Reference.DV[set], numbers[set]);
        }
    }

    private static void halvesGoUp(int set, int polynomial, int d, int number) {
        Checks.holds("DECOMPRESS " + d, Reference.decompress(d, 1 << d - 1) == 1665);
        Crafted crafted = new Crafted(set, 1, CLOSE[set], number);
        int[][] uv = Reference.decompressed(set, crafted.packet);
        byte[] up = message(set, crafted.secretKey, uv);
        for (int i = 0; i < 256; i++) {
            uv[polynomial][i] -= uv[polynomial][i] == 1665 ? 1 : 0;
        }
        byte[] down = message(set, crafted.secretKey, uv);
        Checks.holds("the message with halves up", Arrays.equals(up, crafted.message));
        Checks.holds("it is another with halves down", !Arrays.equals(down, crafted.message));
        opensCrafted("halves up", set, crafted);
    }

    private static byte[] message(int set, byte[] secretKey, int[][] uv) {
        return Reference.bits(Reference.compress(1, Reference.found(set, secretKey, uv)), 1);
    }

    /** With a large s the rounding of U decides over many a bit: some packets open, and some do not. */
    private static void roundingOfUIsTheNearest() {
        for (int i = 0; i < 3; i++) {
            int set = i;
            int opened = 0;
            for (int number = 0; number < 40; number++) {
                Crafted crafted = new Crafted(set, (set == 2 ? 262 : 190) + number, 0, number);
                byte[][] due = Reference.open(set, crafted.secretKey, crafted.packet);
                opened += due[1][0];
                ModuleKem x = State.empty().with(Example.SECRET, crafted.secretKey)
                        .with(Example.PACKET, crafted.packet).make();
                Checks.due("kemOpen(" + set + ")", () -> x.kemOpen(set), due[1][0]);
                Checks.holdsBytes("SHARED", x, Example.SHARED, due[0]);
            }
            Checks.holds(opened + " of set " + set + " are opened", opened > 2 && opened < 38);
        }
    }
}
