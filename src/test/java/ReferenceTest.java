import java.nio.charset.StandardCharsets;
import java.security.MessageDigest;
import java.security.NoSuchAlgorithmException;
import java.util.HexFormat;
import java.util.Random;

/** That Reference, which the other tests lean on, is right itself. */
public final class ReferenceTest {
    public static void main(String[] args) {
        Checks.run(ReferenceTest.class);
    }

    private static void hashesAreThoseOfTheLibrary() throws NoSuchAlgorithmException {
        Random random = new Random(1);
        for (int b : new int[] {224, 256, 384, 512}) {
            int rate = 200 - b / 4;
            for (int n : new int[] {0, 1, 32, rate - 1, rate, rate + 1, 2 * rate - 1, 2 * rate, 1568}) {
                byte[] x = Checks.randomBytes(random, n);
                String want = hex(MessageDigest.getInstance("SHA3-" + b).digest(x));
                Checks.due("SHA3-" + b + " of " + n + " bytes", () -> hex(Reference.sha3(b, x)), want);
            }
        }
    }

    private static void shakesAreThoseOfTheStandard() {
        byte[] none = new byte[0];
        Checks.due("SHAKE128 of nothing", () -> hex(Reference.shake128(none, 32)),
                "7f9c2ba4e88f827d616045507605853ed73b8093f6efbc88eb1a6eacfa66ef26");
        Checks.due("SHAKE256 of nothing", () -> hex(Reference.shake256(none, 32)),
                "46b9dd2b0ba88d13233b3feb743eeb243fcd52ea62b81b82b50c27646ed5762f");
        byte[] abc = "abc".getBytes(StandardCharsets.US_ASCII);
        Checks.due("SHAKE128 of abc", () -> hex(Reference.shake128(abc, 32)),
                "5881092dd818bf5cf8a3ddb793fbcba74097d5c526a6d35f97b83351940f2cc8");
        Checks.due("SHAKE256 of abc", () -> hex(Reference.shake256(abc, 32)),
                "483366601360a8771c6863080cc4114d8db44530f8f1e1ee4f94ea37e78b5739");
    }

    private static void transformTurnsProductsIntoPairProducts() {
        Random random = new Random(2);
        int[] f = random.ints(256, 0, Reference.Q).toArray();
        int[] g = random.ints(256, 0, Reference.Q).toArray();
        long[] product = new long[256];
        for (int i = 0; i < 256; i++) {
            for (int j = 0; j < 256; j++) {
                int sign = i + j < 256 ? 1 : -1;
                product[(i + j) % 256] += (long) sign * f[i] * g[j];
            }
        }
        int[] got = Reference.unntt(Reference.times(Reference.ntt(f), Reference.ntt(g)));
        for (int i = 0; i < 256; i++) {
            int place = i;
            Checks.due("coefficient " + i + " of a product", () -> got[place],
                    Math.floorMod(product[place], Reference.Q));
        }
    }

    private static void roundingIsHalvesUp() {
        Checks.due("DECOMPRESS 1 of 1", () -> Reference.decompress(1, 1), 1665);
        Checks.due("COMPRESS 1 of 832", () -> Reference.compress(1, 832), 0);
        Checks.due("COMPRESS 1 of 833", () -> Reference.compress(1, 833), 1);
        Checks.due("COMPRESS 1 of 2496", () -> Reference.compress(1, 2496), 1);
        Checks.due("COMPRESS 1 of 2497", () -> Reference.compress(1, 2497), 0);
        Checks.due("COMPRESS 4 of 3328", () -> Reference.compress(4, 3328), 0);
    }

    private static String hex(byte[] bytes) {
        return HexFormat.of().formatHex(bytes);
    }
}
