import java.util.Random;

/**
 * A pair of keys that kemKeys never makes, and a packet for it. S 0 is a number s and the other S are 0; T is what
 * belongs to that S, with a number t on T 0 instead of noise. What OPEN finds is then off by t Y 0, by s times the
 * noise and the rounding of U 0, and by the rounding of V: s and t bring it as close to q / 4 as a test needs it.
 */
final class Crafted {
    final byte[] publicKey;
    final byte[] secretKey;
    final byte[] message;
    final byte[] packet;
    final byte[] key;

    Crafted(int set, int s, int t, int number) {
        Random random = new Random(number);
        byte[] seed = Checks.randomBytes(random, 32);
        message = Checks.randomBytes(random, 32);
        int k = Reference.K[set];
        int[][][] a = Reference.matrix(k, seed);
        int[] transformed = Reference.ntt(constant(s));
        byte[] p = new byte[0];
        for (int i = 0; i < k; i++) {
            int[] row = Reference.times(a[i][0], transformed);
            p = Reference.join(p, Reference.bits(i == 0 ? Reference.plus(row, Reference.ntt(constant(t))) : row, 12));
        }
        publicKey = Reference.join(p, seed);
        secretKey = Reference.join(Reference.bits(transformed, 12), new byte[384 * (k - 1)], publicKey,
                Reference.sha3(256, publicKey), new byte[32]);
        byte[][] wrapped = Reference.wrap(set, publicKey, message);
        packet = wrapped[0];
        key = wrapped[1];
    }

    private static int[] constant(int value) {
        int[] f = new int[256];
        f[0] = value;
        return f;
    }
}
