import java.security.MessageDigest;
import java.security.NoSuchAlgorithmException;
import java.util.Arrays;
import java.util.Random;

/**
 * SPONGE at the edges of its blocks. The calls hash few lengths, none of which ends at such an edge, so this test
 * reaches inside for the sponge of an object.
 */
public final class SpongeTest {
    private static final int SHA3 = 6;
    private static final int SHAKE = 31;

    public static void main(String[] args) {
        Checks.run(SpongeTest.class);
    }

    private static String hashed(int rate, int suffix, byte[] x, int n) {
        Object sponge = Inside.sponge(new ModuleKem());
        byte[] answer = new byte[n];
        Inside.call(sponge, "start", rate);
        Inside.call(sponge, "take", x, 0, x.length);
        Inside.call(sponge, "finish", suffix);
        Inside.call(sponge, "give", answer, 0, n);
        return Arrays.toString(answer);
    }

    private static String digest(String name, byte[] x) {
        try {
            return Arrays.toString(MessageDigest.getInstance(name).digest(x));
        } catch (NoSuchAlgorithmException e) {
            throw new IllegalStateException(e);
        }
    }

    private static void isLikeTheLibrary(int n, int blocks) {
        for (int b : new int[] {224, 256, 384, 512}) {
            int rate = 200 - b / 4;
            byte[] x = Checks.randomBytes(new Random(b), blocks * rate + n);
            Checks.due("SHA3-" + b + " of " + x.length, () -> hashed(rate, SHA3, x, b / 8), digest("SHA3-" + b, x));
        }
    }

    /** "x | s, then zeros up to a multiple of R, the last byte of all ^ 128": nothing but s and zeros. */
    private static void nothingIsHashed() {
        isLikeTheLibrary(0, 0);
    }

    private static void oneByteIsHashed() {
        isLikeTheLibrary(1, 0);
    }

    /** There is room for s and a zero, in whose place the 128 is. */
    private static void twoBytesAreLeftInABlock() {
        isLikeTheLibrary(-2, 1);
        isLikeTheLibrary(-2, 3);
    }

    /** s is the last byte of all, and 128 comes to it. */
    private static void oneByteIsLeftInABlock() {
        isLikeTheLibrary(-1, 1);
        isLikeTheLibrary(-1, 3);
    }

    /** s begins a block of its own. */
    private static void blockIsFull() {
        isLikeTheLibrary(0, 1);
        isLikeTheLibrary(0, 3);
    }

    private static void oneByteIsInTheNextBlock() {
        isLikeTheLibrary(1, 1);
        isLikeTheLibrary(1, 3);
    }

    /** "R of them, PERMUTE, R of them, .., n in all": all of a block, and one more. */
    private static void outputEndsWithABlock() {
        for (int rate : new int[] {136, 168}) {
            for (int n : new int[] {0, 1, rate - 1, rate, rate + 1, 2 * rate, 2 * rate + 1, 5 * rate}) {
                byte[] x = Checks.randomBytes(new Random(n), 34);
                String want = Arrays.toString(Reference.sponge(rate, SHAKE, x, n));
                Checks.due(n + " bytes at rate " + rate, () -> hashed(rate, SHAKE, x, n), want);
            }
        }
    }

    /** Nothing is left of what was hashed before. */
    private static void spongeStartsAnew() {
        Object sponge = Inside.sponge(new ModuleKem());
        Inside.call(sponge, "start", 136);
        Inside.call(sponge, "take", Checks.bytesOf(255, 200), 0, 200);
        byte[] answer = new byte[32];
        Inside.call(sponge, "start", 136);
        Inside.call(sponge, "finish", SHA3);
        Inside.call(sponge, "give", answer, 0, 32);
        Checks.due("SHA3-256 of nothing", () -> Arrays.toString(answer), digest("SHA3-256", new byte[0]));
    }
}
