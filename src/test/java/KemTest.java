import java.util.Arrays;
import java.util.Random;

/** Promises 10 to 12: keys, wrapping and opening beside Reference, and what is malformed. */
public final class KemTest {
    private static final String ARGUMENT = "throws.IllegalArgumentException";
    private static final String STATE = "throws.IllegalStateException";
    private static final String MALFORMED = "throws.UnsupportedOperationException";
    private static final int[] BAD_SETS = {-1, 3, Integer.MIN_VALUE, Integer.MAX_VALUE};

    private static final Random RANDOM = new Random(203);

    public static void main(String[] args) {
        for (int set = 0; set < 3; set++) {
            for (int i = 0; i < 12; i++) {
                keysWrapOpen(set, seed(i, 64), seed(i, 32));
            }
            keysRefuse(set);
            keysLeaveTheRest(set);
            wrapRefuses(set);
            wrapLooksAtEveryNumber(set);
            openRefuses(set);
            openAnotherPacket(set);
            openTakesNumbersModuloQ(set);
            openTakesAnyNumbers(set);
            openRoundsHalfway(set);
            openRoundsVectors(set);
        }
        setsAreApart();
        Checks.finish("KemTest");
    }

    /** All zeros and all ones first, then at random. */
    private static byte[] seed(int i, int n) {
        byte[] bytes = i < 2 ? new byte[n] : Checks.randomBytes(RANDOM, n);
        if (i == 1) {
            Arrays.fill(bytes, (byte) 255);
        }
        return bytes;
    }

    private static byte[][] keysOf(int set, byte[] seed) {
        return Reference.keys(set, Reference.part(seed, 0, 32), Reference.part(seed, 32, 32));
    }

    private static void keysWrapOpen(int set, byte[] seed, byte[] message) {
        byte[][] keys = keysOf(set, seed);
        byte[][] wrapped = Reference.wrap(set, keys[0], message);
        ModuleKem x = new ModuleKem();
        Checks.put(x, 0, seed);
        Checks.due("kemKeys(" + set + ")", () -> x.kemKeys(set), Reference.secretSize(set));
        Checks.holdsBytes("PUBLIC of set " + set, x, 1, keys[0]);
        Checks.holdsBytes("SECRET of set " + set, x, 2, keys[1]);
        Checks.put(x, 0, message);
        Checks.due("kemWrap(" + set + ")", () -> x.kemWrap(set), Reference.packetSize(set));
        Checks.holdsBytes("PACKET of set " + set, x, 5, wrapped[0]);
        Checks.holdsBytes("SHARED of set " + set, x, 6, wrapped[1]);
        x.resize(6, 0);
        Checks.due("kemOpen(" + set + ")", () -> x.kemOpen(set), 1);
        Checks.holdsBytes("SHARED, opened, of set " + set, x, 6, wrapped[1]);
        int place = RANDOM.nextInt(wrapped[0].length);
        wrapped[0][place] ^= 1;
        x.alter(5, place, 1);
        Checks.due("kemOpen(" + set + ") of an altered packet", () -> x.kemOpen(set), 0);
        byte[] z = Reference.part(seed, 32, 32);
        byte[] rejected = Reference.shake256(Reference.join(z, wrapped[0]), 32);
        Checks.holdsBytes("SHARED, rejected, of set " + set, x, 6, rejected);
    }

    private static void keysRefuse(int set) {
        for (int n : new int[] {0, 32, 63, 65, 8192}) {
            ModuleKem x = new ModuleKem();
            x.resize(0, n);
            Checks.due("kemKeys(" + set + ") with " + n, () -> x.kemKeys(set), STATE);
            Checks.due("PUBLIC stays", () -> x.length(1), 0);
            Checks.due("SECRET stays", () -> x.length(2), 0);
            for (int bad : BAD_SETS) {
                Checks.due("kemKeys(" + bad + ")", () -> x.kemKeys(bad), ARGUMENT);
            }
        }
    }

    private static void keysLeaveTheRest(int set) {
        byte[] seed = Checks.randomBytes(RANDOM, 64);
        ModuleKem x = new ModuleKem();
        Checks.put(x, 0, seed);
        for (int slot = 3; slot < 8; slot++) {
            x.resize(slot, slot);
            x.alter(slot, slot - 1, 200 + slot);
        }
        // What is longer than the keys must not stay behind them.
        x.resize(1, 8192);
        x.resize(2, 8192);
        x.feed(1, 2, 3, 4, 5);
        x.kemKeys(set);
        Checks.due("PUBLIC's length", () -> x.length(1), Reference.publicSize(set));
        Checks.due("SECRET's length", () -> x.length(2), Reference.secretSize(set));
        for (int i = 3; i < 8; i++) {
            int slot = i;
            Checks.due("length of slot " + slot, () -> x.length(slot), slot);
            Checks.due("last of slot " + slot, () -> x.word(slot, slot - 1), (200L + slot) << 56);
        }
        Checks.due("the tape stays", () -> x.feed(1, 2, 3, 4, 5), 40);
        x.end(7, 0);
        Checks.holdsBytes("RANDOM stays", x, 0, seed);
    }

    private static ModuleKem withKeys(int set, byte[] seed) {
        ModuleKem x = new ModuleKem();
        Checks.put(x, 0, seed);
        x.kemKeys(set);
        return x;
    }

    private static void wrapRefuses(int set) {
        int right = Reference.publicSize(set);
        ModuleKem x = withKeys(set, Checks.randomBytes(RANDOM, 64));
        for (int n : new int[] {0, 31, 33, 64}) {
            x.resize(0, n);
            Checks.due("kemWrap(" + set + ") with " + n, () -> x.kemWrap(set), STATE);
            for (int bad : BAD_SETS) {
                Checks.due("kemWrap(" + bad + ")", () -> x.kemWrap(bad), ARGUMENT);
            }
        }
        for (int n : new int[] {right + 1, right - 1, 8192, 0}) {
            x.resize(1, n);
            x.resize(0, 31);
            Checks.due("kemWrap(" + set + "), both wrong", () -> x.kemWrap(set), STATE);
            x.resize(0, 32);
            Checks.due("kemWrap(" + set + ") of " + n, () -> x.kemWrap(set), MALFORMED);
            Checks.due("kemWrap(3) of " + n, () -> x.kemWrap(3), ARGUMENT);
        }
        Checks.due("PACKET stays", () -> x.length(5), 0);
        Checks.due("SHARED stays", () -> x.length(6), 0);
        x.resize(1, right);
        x.resize(5, 8192);
        x.resize(6, 8192);
        Checks.due("kemWrap(" + set + ") of zeros", () -> x.kemWrap(set), Reference.packetSize(set));
        Checks.due("PACKET has its length", () -> x.length(5), Reference.packetSize(set));
        Checks.due("SHARED has its length", () -> x.length(6), 32);
        byte[][] wrapped = Reference.wrap(set, new byte[right], new byte[32]);
        Checks.holdsBytes("PACKET of zeros", x, 5, wrapped[0]);
        Checks.holdsBytes("SHARED of zeros", x, 6, wrapped[1]);
    }

    /** Sets the number at a place of 12 bits to a value. */
    private static void setNumber(byte[] bytes, int number, int value) {
        for (int bit = 0; bit < 12; bit++) {
            int j = 12 * number + bit;
            int cleared = bytes[j / 8] & ~(1 << j % 8);
            bytes[j / 8] = (byte) (cleared | (value >> bit & 1) << j % 8);
        }
    }

    private static int number(byte[] bytes, int number) {
        int value = 0;
        for (int bit = 0; bit < 12; bit++) {
            value |= Reference.bit(bytes, 12 * number + bit) << bit;
        }
        return value;
    }

    private static void wrapLooksAtEveryNumber(int set) {
        byte[] seed = Checks.randomBytes(RANDOM, 64);
        byte[] message = Checks.randomBytes(RANDOM, 32);
        int last = 256 * Reference.K[set] - 1;
        for (int n : new int[] {0, 1, 2, 255, 256, last / 2, last - 1, last}) {
            for (int value : new int[] {3328, 3329, 4095}) {
                byte[] p = keysOf(set, seed)[0];
                setNumber(p, n, value);
                ModuleKem x = new ModuleKem();
                Checks.put(x, 1, p);
                Checks.put(x, 0, message);
                x.resize(5, 7);
                x.resize(6, 9);
                String what = "kemWrap(" + set + "), number " + n + " is " + value;
                if (value < Reference.Q) {
                    byte[][] wrapped = Reference.wrap(set, p, message);
                    Checks.due(what, () -> x.kemWrap(set), Reference.packetSize(set));
                    Checks.holdsBytes(what + ": PACKET", x, 5, wrapped[0]);
                } else {
                    Checks.due(what, () -> x.kemWrap(set), MALFORMED);
                    Checks.due(what + ": PACKET stays", () -> x.length(5), 7);
                    Checks.due(what + ": SHARED stays", () -> x.length(6), 9);
                }
                Checks.holdsBytes(what + ": PUBLIC stays", x, 1, p);
                Checks.holdsBytes(what + ": RANDOM stays", x, 0, message);
            }
        }
        seedOfOnesIsFine(set, seed, message);
    }

    /** The 32 bytes behind the numbers are no numbers. */
    private static void seedOfOnesIsFine(int set, byte[] seed, byte[] message) {
        byte[] p = keysOf(set, seed)[0];
        Arrays.fill(p, 384 * Reference.K[set], p.length, (byte) 255);
        ModuleKem x = new ModuleKem();
        Checks.put(x, 1, p);
        Checks.put(x, 0, message);
        Checks.due("kemWrap(" + set + ") with a seed of ones", () -> x.kemWrap(set), Reference.packetSize(set));
        Checks.holdsBytes("PACKET of that", x, 5, Reference.wrap(set, p, message)[0]);
    }

    private static ModuleKem wrapped(int set) {
        ModuleKem x = withKeys(set, Checks.randomBytes(RANDOM, 64));
        Checks.put(x, 0, Checks.randomBytes(RANDOM, 32));
        x.kemWrap(set);
        return x;
    }

    private static void openRefuses(int set) {
        ModuleKem x = wrapped(set);
        int secretSize = Reference.secretSize(set);
        int packetSize = Reference.packetSize(set);
        int k = Reference.K[set];
        x.resize(6, 0);
        x.resize(6, 5);
        for (int bad : BAD_SETS) {
            Checks.due("kemOpen(" + bad + ")", () -> x.kemOpen(bad), ARGUMENT);
        }
        x.copy(5, 4);
        for (int n : new int[] {packetSize - 1, packetSize + 1, 0, 8192}) {
            x.resize(5, n);
            Checks.due("kemOpen(" + set + "), PACKET of " + n, () -> x.kemOpen(set), MALFORMED);
            x.copy(4, 5);
        }
        x.copy(2, 3);
        for (int n : new int[] {secretSize - 1, secretSize + 1, 0, 8192}) {
            x.resize(2, n);
            Checks.due("kemOpen(" + set + "), SECRET of " + n, () -> x.kemOpen(set), MALFORMED);
            x.copy(3, 2);
        }
        int h = 768 * k + 32;
        for (int place : new int[] {384 * k, 384 * k + 1, h - 32, h - 1, h, h + 15, h + 31}) {
            x.alter(2, place, 64);
            Checks.due("kemOpen(" + set + "), byte " + place + " altered", () -> x.kemOpen(set), MALFORMED);
            x.alter(2, place, 64);
        }
        Checks.due("SHARED stays", () -> x.length(6), 5);
        Checks.due("SHARED's bytes stay", () -> x.word(6, 0), 0L);
        Checks.due("SECRET stays", () -> x.same(2, 3), true);
        // RANDOM and PUBLIC are not asked for, and z only where the packet is rejected.
        x.resize(0, 0);
        x.resize(1, 0);
        x.alter(2, secretSize - 1, 1);
        Checks.due("kemOpen(" + set + ") without RANDOM and PUBLIC", () -> x.kemOpen(set), 1);
        Checks.due("SHARED's length", () -> x.length(6), 32);
        Checks.due("PACKET stays", () -> x.same(5, 4), true);
        Checks.due("PUBLIC stays", () -> x.length(1), 0);
    }

    /** Packets that no wrapping made: zeros, ones, at random, and one bit off at the first and the last byte. */
    private static void openAnotherPacket(int set) {
        byte[] secret = keysOf(set, Checks.randomBytes(RANDOM, 64))[1];
        byte[] p = Reference.part(secret, 384 * Reference.K[set], Reference.publicSize(set));
        byte[] right = Reference.wrap(set, p, Checks.randomBytes(RANDOM, 32))[0];
        byte[] first = right.clone();
        first[0] ^= 1;
        byte[] last = right.clone();
        last[last.length - 1] ^= (byte) 128;
        byte[] zeros = new byte[right.length];
        byte[] ones = right.clone();
        Arrays.fill(ones, (byte) 255);
        byte[] any = Checks.randomBytes(RANDOM, right.length);
        for (byte[] packet : new byte[][] {right, first, last, zeros, ones, any}) {
            ModuleKem x = new ModuleKem();
            Checks.put(x, 2, secret);
            Checks.put(x, 5, packet);
            Checks.due("kemOpen(" + set + ")", () -> x.kemOpen(set), packet == right ? 1 : 0);
            byte[] want = Reference.open(set, secret, packet)[0];
            Checks.holdsBytes("SHARED", x, 6, want);
            Checks.holdsBytes("PACKET stays", x, 5, packet);
        }
    }

    /** Numbers of q and more in SECRET count modulo q: the key opens as it did, with the hash of its new bytes. */
    private static void openTakesNumbersModuloQ(int set) {
        int k = Reference.K[set];
        byte[] seed = Checks.randomBytes(RANDOM, 64);
        byte[] secret = keysOf(set, seed)[1];
        int raised = 0;
        for (int n = 0; n < 512 * k; n++) {
            if (number(secret, n) < 4096 - Reference.Q) {
                setNumber(secret, n, number(secret, n) + Reference.Q);
                raised++;
            }
        }
        Checks.holds("some numbers are raised", raised > 10);
        byte[] p = Reference.part(secret, 384 * k, Reference.publicSize(set));
        System.arraycopy(Reference.sha3(256, p), 0, secret, 768 * k + 32, 32);
        byte[][] wrapped = Reference.wrap(set, p, Checks.randomBytes(RANDOM, 32));
        ModuleKem x = new ModuleKem();
        Checks.put(x, 2, secret);
        Checks.put(x, 5, wrapped[0]);
        Checks.due("kemOpen(" + set + ") with numbers of q and more", () -> x.kemOpen(set), 1);
        Checks.holdsBytes("SHARED of that", x, 6, wrapped[1]);
        Checks.holdsBytes("SECRET stays", x, 2, secret);
    }

    private static void openTakesAnyNumbers(int set) {
        int k = Reference.K[set];
        byte[] secret = new byte[Reference.secretSize(set)];
        Arrays.fill(secret, (byte) 255);
        byte[] p = Reference.part(secret, 384 * k, Reference.publicSize(set));
        System.arraycopy(Reference.sha3(256, p), 0, secret, 768 * k + 32, 32);
        byte[] packet = Checks.randomBytes(RANDOM, Reference.packetSize(set));
        byte[][] opened = Reference.open(set, secret, packet);
        ModuleKem x = new ModuleKem();
        Checks.put(x, 2, secret);
        Checks.put(x, 5, packet);
        Checks.due("kemOpen(" + set + ") with ones", () -> x.kemOpen(set), (int) opened[1][0]);
        Checks.holdsBytes("SHARED of that", x, 6, opened[0]);
    }

    /** A secret key of one's own numbers, with the hash and a z of zeros behind them. */
    private static byte[] secretOf(byte[] numbers, byte[] p) {
        return Reference.join(numbers, p, Reference.sha3(256, p), new byte[32]);
    }

    /** The transform of a polynomial that is but a number, as BYTES. */
    private static byte[] constant(int value) {
        return Reference.bits(Reference.ntt(constantPolynomial(value)), 12);
    }

    private static int[] constantPolynomial(int value) {
        int[] f = new int[256];
        f[0] = value;
        return f;
    }

    /**
     * Rounding in DECOMPRESS is lost in the noise with keys that kemKeys makes. Here S is 0 and T 0 a number that the
     * largest noise brings close to -q / 4, where the number from the packet is just 2497, and 2496 would be a 1.
     */
    private static void openRoundsHalfway(int set) {
        int k = Reference.K[set];
        int number = 832 / Reference.E1[set];
        byte[] rest = Checks.randomBytes(RANDOM, 32);
        byte[] p = Reference.join(constant(number), new byte[384 * (k - 1)], rest);
        byte[][] wrapped = Reference.wrap(set, p, new byte[32]);
        ModuleKem x = new ModuleKem();
        Checks.put(x, 2, secretOf(new byte[384 * k], p));
        Checks.put(x, 5, wrapped[0]);
        Checks.due("kemOpen(" + set + ") halfway between 0 and 1", () -> x.kemOpen(set), 1);
        Checks.holdsBytes("SHARED of that", x, 6, wrapped[1]);
    }

    /** S 0 is a number, T what belongs to it without noise: some rounding of U is then made so large as to tell. */
    private static void openRoundsVectors(int set) {
        int k = Reference.K[set];
        int genuine = 0;
        int rejected = 0;
        for (int i = 0; i < 30; i++) {
            byte[] seed = Checks.randomBytes(RANDOM, 32);
            int[][][] a = Reference.matrix(k, seed);
            int[] s = Reference.ntt(constantPolynomial((set == 2 ? 262 : 190) + i));
            byte[] p = new byte[0];
            for (int j = 0; j < k; j++) {
                p = Reference.join(p, Reference.bits(Reference.times(a[j][0], s), 12));
            }
            p = Reference.join(p, seed);
            byte[] secret = secretOf(Reference.join(Reference.bits(s, 12), new byte[384 * (k - 1)]), p);
            byte[][] wrapped = Reference.wrap(set, p, Checks.randomBytes(RANDOM, 32));
            byte[][] opened = Reference.open(set, secret, wrapped[0]);
            int answer = opened[1][0];
            genuine += answer;
            rejected += 1 - answer;
            ModuleKem x = new ModuleKem();
            Checks.put(x, 2, secret);
            Checks.put(x, 5, wrapped[0]);
            Checks.due("kemOpen(" + set + ") with a key of large numbers", () -> x.kemOpen(set), answer);
            Checks.holdsBytes("SHARED of that", x, 6, opened[0]);
        }
        Checks.holds("some of set " + set + " are opened: " + genuine, genuine > 2);
        Checks.holds("some of set " + set + " are rejected: " + rejected, rejected > 2);
    }

    private static void setsAreApart() {
        for (int i = 0; i < 3; i++) {
            int set = i;
            ModuleKem x = wrapped(set);
            for (int j = 0; j < 3; j++) {
                int other = j;
                Object wrap = other == set ? Reference.packetSize(set) : MALFORMED;
                Object open = other == set ? 1 : MALFORMED;
                Checks.due("kemOpen(" + other + ") of set " + set, () -> x.kemOpen(other), open);
                Checks.due("kemWrap(" + other + ") of set " + set, () -> x.kemWrap(other), wrap);
            }
        }
    }
}
