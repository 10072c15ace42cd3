import java.io.ByteArrayOutputStream;
import java.util.Arrays;

/**
 * The document's formulas, taken word for word and without any of the short cuts of ModuleKem: places modulo 5 in
 * two dimensions, the transform by its definition, bits one by one. It is slow and is here to be compared with.
 */
final class Reference {
    static final int Q = 3329;
    static final int[] K = {2, 3, 4};
    static final int[] E1 = {3, 2, 2};
    static final int[] DU = {10, 10, 11};
    static final int[] DV = {4, 4, 5};

    // Each of these by its formula, but only once: they are what takes the time.
    private static final int[][] TURNS = turns();
    private static final long[] ROUND_CONSTANTS = roundConstants();
    private static final int[] SQUARES = squares();
    private static final int[] INVERSE_SQUARES = inverseSquares();

    private Reference() {
    }

    static int publicSize(int set) {
        return 384 * K[set] + 32;
    }

    static int secretSize(int set) {
        return 768 * K[set] + 96;
    }

    static int packetSize(int set) {
        return 32 * (DU[set] * K[set] + DV[set]);
    }

    // Bytes

    static byte[] join(byte[]... parts) {
        ByteArrayOutputStream out = new ByteArrayOutputStream();
        for (byte[] part : parts) {
            out.writeBytes(part);
        }
        return out.toByteArray();
    }

    static byte[] part(byte[] x, int i, int n) {
        return Arrays.copyOfRange(x, i, i + n);
    }

    static byte[] one(int v) {
        return new byte[] {(byte) v};
    }

    static int bit(byte[] x, int j) {
        return x[j / 8] >> (j % 8) & 1;
    }

    // SPONGE

    static byte[] sponge(int r, int s, byte[] x, int n) {
        int blocks = (x.length + 1 + r - 1) / r;
        byte[] padded = Arrays.copyOf(join(x, one(s)), blocks * r);
        padded[padded.length - 1] ^= (byte) 128;
        long[][] lanes = new long[5][5];
        for (int block = 0; block < blocks; block++) {
            for (int i = 0; i < r; i++) {
                int lane = i / 8;
                lanes[lane % 5][lane / 5] ^= (padded[block * r + i] & 255L) << 8 * (i % 8);
            }
            lanes = permute(lanes);
        }
        byte[] answer = new byte[n];
        for (int i = 0; i < n; i++) {
            if (i > 0 && i % r == 0) {
                lanes = permute(lanes);
            }
            int lane = i % r / 8;
            answer[i] = (byte) (lanes[lane % 5][lane / 5] >>> 8 * (i % r % 8));
        }
        return answer;
    }

    private static long[][] permute(long[][] start) {
        long[][] a = start;
        for (int i = 0; i < 24; i++) {
            long[] c = new long[5];
            for (int x = 0; x < 5; x++) {
                for (int y = 0; y < 5; y++) {
                    c[x] ^= a[x][y];
                }
            }
            long[][] b = new long[5][5];
            for (int x = 0; x < 5; x++) {
                for (int y = 0; y < 5; y++) {
                    long lane = a[x][y] ^ c[(x + 4) % 5] ^ Long.rotateLeft(c[(x + 1) % 5], 1);
                    b[y][(2 * x + 3 * y) % 5] = Long.rotateLeft(lane, TURNS[x][y]);
                }
            }
            long[][] next = new long[5][5];
            for (int x = 0; x < 5; x++) {
                for (int y = 0; y < 5; y++) {
                    next[x][y] = b[x][y] ^ (~b[(x + 1) % 5][y] & b[(x + 2) % 5][y]);
                }
            }
            next[0][0] ^= ROUND_CONSTANTS[i];
            a = next;
        }
        return a;
    }

    private static int[][] turns() {
        int[][] o = new int[5][5];
        int a = 1;
        int b = 0;
        for (int t = 0; t < 24; t++) {
            o[a][b] = (t + 1) * (t + 2) / 2 % 64;
            int next = (2 * a + 3 * b) % 5;
            a = b;
            b = next;
        }
        return o;
    }

    private static long[] roundConstants() {
        long[] constants = new long[24];
        for (int i = 0; i < 24; i++) {
            for (int j = 0; j <= 6; j++) {
                if (registerBit(j + 7 * i)) {
                    constants[i] |= 1L << ((1 << j) - 1);
                }
            }
        }
        return constants;
    }

    private static boolean registerBit(int t) {
        int register = 1;
        for (int step = 0; step < t % 255; step++) {
            boolean out = register >= 128;
            register = register * 2 % 256;
            if (out) {
                register ^= 113;
            }
        }
        return register % 2 == 1;
    }

    static byte[] sha3(int b, byte[] x) {
        return sponge(200 - b / 4, 6, x, b / 8);
    }

    static byte[] shake128(byte[] x, int n) {
        return sponge(168, 31, x, n);
    }

    static byte[] shake256(byte[] x, int n) {
        return sponge(136, 31, x, n);
    }

    // Polynomials

    static byte[] bits(int[] f, int d) {
        byte[] answer = new byte[32 * d];
        for (int j = 0; j < 256 * d; j++) {
            answer[j / 8] |= (byte) ((f[j / d] >> (j % d) & 1) << (j % 8));
        }
        return answer;
    }

    static int[] unbits(byte[] x, int at, int d) {
        int[] f = new int[256];
        for (int j = 0; j < 256 * d; j++) {
            f[j / d] |= bit(x, 8 * at + j) << (j % d);
        }
        return f;
    }

    static int[] modulo(int[] f) {
        int[] g = new int[256];
        for (int i = 0; i < 256; i++) {
            g[i] = Math.floorMod(f[i], Q);
        }
        return g;
    }

    static int power(int base, int exponent) {
        int answer = 1;
        for (int i = 0; i < exponent; i++) {
            answer = answer * base % Q;
        }
        return answer;
    }

    /** 17^(2 rev 7 (i) + 1), the square of X at pair i. */
    private static int[] squares() {
        int[] squares = new int[128];
        for (int i = 0; i < 128; i++) {
            int turned = Integer.reverse(i) >>> 25;
            squares[i] = power(17, 2 * turned + 1);
        }
        return squares;
    }

    private static int[] inverseSquares() {
        int[] inverses = new int[128];
        for (int i = 0; i < 128; i++) {
            inverses[i] = power(SQUARES[i], Q - 2);
        }
        return inverses;
    }

    static int[] ntt(int[] f) {
        int[] g = new int[256];
        for (int i = 0; i < 128; i++) {
            int square = SQUARES[i];
            int power = 1;
            for (int j = 0; j < 128; j++) {
                g[2 * i] = Math.floorMod(g[2 * i] + f[2 * j] * power, Q);
                g[2 * i + 1] = Math.floorMod(g[2 * i + 1] + f[2 * j + 1] * power, Q);
                power = power * square % Q;
            }
        }
        return g;
    }

    /** The sum over all pairs of g times the inverse powers is 128 times what it was. */
    static int[] unntt(int[] g) {
        int[] f = new int[256];
        int inverse128 = power(128, Q - 2);
        for (int i = 0; i < 128; i++) {
            int inverse = INVERSE_SQUARES[i];
            int power = inverse128;
            for (int j = 0; j < 128; j++) {
                f[2 * j] = (f[2 * j] + g[2 * i] * power) % Q;
                f[2 * j + 1] = (f[2 * j + 1] + g[2 * i + 1] * power) % Q;
                power = power * inverse % Q;
            }
        }
        return f;
    }

    static int[] times(int[] f, int[] g) {
        int[] answer = new int[256];
        for (int i = 0; i < 256; i += 2) {
            long square = SQUARES[i / 2];
            answer[i] = (int) (((long) f[i] * g[i] + square * f[i + 1] * g[i + 1]) % Q);
            answer[i + 1] = (int) (((long) f[i] * g[i + 1] + (long) f[i + 1] * g[i]) % Q);
        }
        return answer;
    }

    static int[] plus(int[] f, int[] g) {
        int[] answer = new int[256];
        for (int i = 0; i < 256; i++) {
            answer[i] = Math.floorMod(f[i] + g[i], Q);
        }
        return answer;
    }

    static int[] minus(int[] f, int[] g) {
        int[] answer = new int[256];
        for (int i = 0; i < 256; i++) {
            answer[i] = Math.floorMod(f[i] - g[i], Q);
        }
        return answer;
    }

    // KEM

    static int[] sample(byte[] x) {
        byte[] stream = shake128(x, 840);
        int[] f = new int[256];
        int n = 0;
        for (int i = 0; i < 840; i += 3) {
            int a = stream[i] & 255;
            int b = stream[i + 1] & 255;
            int c = stream[i + 2] & 255;
            for (int v : new int[] {a + 256 * (b % 16), b / 16 + 16 * c}) {
                if (v < Q && n < 256) {
                    f[n++] = v;
                }
            }
        }
        if (n < 256) {
            throw new ArithmeticException();
        }
        return f;
    }

    static int[] cbd(int e, byte[] x) {
        int[] f = new int[256];
        for (int i = 0; i < 256; i++) {
            for (int j = 0; j < e; j++) {
                f[i] += bit(x, 2 * i * e + j) - bit(x, 2 * i * e + e + j);
            }
        }
        return modulo(f);
    }

    static int[] noise(int e, byte[] s, int b) {
        return cbd(e, shake256(join(s, one(b)), 64 * e));
    }

    static int compress(int d, int x) {
        return (int) Math.floorMod(Math.floorDiv(2L * (1 << d) * x + Q, 2L * Q), 1L << d);
    }

    static int decompress(int d, int y) {
        return (int) Math.floorDiv(2L * Q * y + (1 << d), 2L * (1 << d));
    }

    static int[] compress(int d, int[] f) {
        int[] g = new int[256];
        for (int i = 0; i < 256; i++) {
            g[i] = compress(d, f[i]);
        }
        return g;
    }

    static int[] decompress(int d, int[] f) {
        int[] g = new int[256];
        for (int i = 0; i < 256; i++) {
            g[i] = decompress(d, f[i]);
        }
        return g;
    }

    static int[][][] matrix(int k, byte[] r) {
        int[][][] a = new int[k][k][];
        for (int i = 0; i < k; i++) {
            for (int j = 0; j < k; j++) {
                a[i][j] = sample(join(r, one(j), one(i)));
            }
        }
        return a;
    }

    /** P and D. */
    static byte[][] keys(int set, byte[] d, byte[] z) {
        int k = K[set];
        byte[] rs = sha3(512, join(d, one(k)));
        byte[] r = part(rs, 0, 32);
        byte[] s = part(rs, 32, 32);
        int[][][] a = matrix(k, r);
        byte[] p = new byte[0];
        byte[] secret = new byte[0];
        int[][] transformed = new int[k][];
        for (int i = 0; i < k; i++) {
            transformed[i] = ntt(noise(E1[set], s, i));
            secret = join(secret, bits(transformed[i], 12));
        }
        for (int i = 0; i < k; i++) {
            int[] t = ntt(noise(E1[set], s, k + i));
            for (int j = 0; j < k; j++) {
                t = plus(t, times(a[i][j], transformed[j]));
            }
            p = join(p, bits(t, 12));
        }
        p = join(p, r);
        return new byte[][] {p, join(secret, p, sha3(256, p), z)};
    }

    /** U 0, .., V of ENCRYPT, before they are COMPRESSED. */
    static int[][] encrypted(int set, byte[] p, byte[] m, byte[] r) {
        int k = K[set];
        int[][][] a = matrix(k, part(p, 384 * k, 32));
        int[][] y = new int[k][];
        for (int i = 0; i < k; i++) {
            y[i] = ntt(noise(E1[set], r, i));
        }
        int[][] answer = new int[k + 1][];
        for (int i = 0; i < k; i++) {
            int[] u = new int[256];
            for (int j = 0; j < k; j++) {
                u = plus(u, times(a[j][i], y[j]));
            }
            answer[i] = plus(unntt(u), noise(2, r, k + i));
        }
        int[] v = new int[256];
        for (int j = 0; j < k; j++) {
            v = plus(v, times(modulo(unbits(p, 384 * j, 12)), y[j]));
        }
        answer[k] = plus(plus(unntt(v), noise(2, r, 2 * k)), decompress(1, unbits(m, 0, 1)));
        return answer;
    }

    static byte[] encrypt(int set, byte[] p, byte[] m, byte[] r) {
        int[][] polynomials = encrypted(set, p, m, r);
        byte[] answer = new byte[0];
        for (int i = 0; i <= K[set]; i++) {
            int d = i < K[set] ? DU[set] : DV[set];
            answer = join(answer, bits(compress(d, polynomials[i]), d));
        }
        return answer;
    }

    /** K | r of WRAP. */
    static byte[] keyAndSeed(byte[] p, byte[] m) {
        return sha3(512, join(m, sha3(256, p)));
    }

    /** The ciphertext and the key. */
    static byte[][] wrap(int set, byte[] p, byte[] m) {
        byte[] kr = keyAndSeed(p, m);
        return new byte[][] {encrypt(set, p, m, part(kr, 32, 32)), part(kr, 0, 32)};
    }

    /** The numbers of U 0, .., V in a ciphertext, as they stand there. */
    static int[][] unpacked(int set, byte[] c) {
        int k = K[set];
        int[][] answer = new int[k + 1][];
        for (int j = 0; j <= k; j++) {
            answer[j] = unbits(c, 32 * DU[set] * j, j < k ? DU[set] : DV[set]);
        }
        return answer;
    }

    /** U 0, .., V of OPEN. */
    static int[][] decompressed(int set, byte[] c) {
        int[][] answer = unpacked(set, c);
        for (int j = 0; j <= K[set]; j++) {
            answer[j] = decompress(j < K[set] ? DU[set] : DV[set], answer[j]);
        }
        return answer;
    }

    /** What OPEN finds before COMPRESS 1 makes the message of it. */
    static int[] found(int set, byte[] d, int[][] uv) {
        int[] sum = new int[256];
        for (int j = 0; j < K[set]; j++) {
            sum = plus(sum, times(modulo(unbits(d, 384 * j, 12)), ntt(uv[j])));
        }
        return minus(uv[K[set]], unntt(sum));
    }

    /** The key, and one byte that is 1 if ENCRYPT gave c. */
    static byte[][] open(int set, byte[] d, byte[] c) {
        int k = K[set];
        byte[] m = bits(compress(1, found(set, d, decompressed(set, c))), 1);
        byte[] h = part(d, 768 * k + 32, 32);
        byte[] z = part(d, 768 * k + 64, 32);
        byte[] kr = sha3(512, join(m, h));
        byte[] again = encrypt(set, part(d, 384 * k, publicSize(set)), m, part(kr, 32, 32));
        if (Arrays.equals(again, c)) {
            return new byte[][] {part(kr, 0, 32), one(1)};
        }
        return new byte[][] {shake256(join(z, c), 32), one(0)};
    }
}
