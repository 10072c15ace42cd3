import java.lang.reflect.Field;
import java.lang.reflect.InvocationTargetException;
import java.lang.reflect.Method;
import java.util.Arrays;

/**
 * SAMPLE's limit of 280 times three bytes. No seed is known that comes to it, so this test alone reaches inside: it
 * lets the sponge of an object move every lane to place 24, by which PERMUTE gives the same chosen block each time.
 */
public final class SampleLimitTest {
    private static final String LIMIT = "throws.ArithmeticException";
    private static final int RATE = 168;

    public static void main(String[] args) throws ReflectiveOperationException {
        for (int set = 0; set < 3; set++) {
            nothingFits(set);
            justTooFew(set);
            justEnough(set);
        }
        lastTripleCounts();
        Checks.finish("SampleLimitTest");
    }

    private static void nothingFits(int set) throws ReflectiveOperationException {
        ModuleKem x = ready(set, blockWith(0));
        refusesAndStays(x, set);
    }

    /** 5 blocks have 280 times three bytes: 51 numbers below q in each make 255. */
    private static void justTooFew(int set) throws ReflectiveOperationException {
        ModuleKem x = ready(set, blockWith(51));
        refusesAndStays(x, set);
    }

    private static void justEnough(int set) throws ReflectiveOperationException {
        ModuleKem x = ready(set, blockWith(52));
        // All noise of such a sponge is 0, and so the packet of zeros is the one that ENCRYPT gives.
        Checks.due("kemOpen(" + set + ") with 52 a block", () -> x.kemOpen(set), 1);
        Checks.due("kemWrap(" + set + ") with 52 a block", () -> x.kemWrap(set), Reference.packetSize(set));
        x.resize(0, 64);
        Checks.due("kemKeys(" + set + ") with 52 a block", () -> x.kemKeys(set), Reference.secretSize(set));
    }

    /** With the first block set apart from the other four, the 256th number can be the very last. */
    private static void lastTripleCounts() throws ReflectiveOperationException {
        Checks.due("52 and four times 51 numbers", () -> sampled(blockWith(52), blockWith(51)), "enough");
        Checks.due("51 and four times 51 numbers", () -> sampled(blockWith(51), blockWith(51)), LIMIT);
    }

    private static String sampled(byte[] first, byte[] others) {
        try {
            ModuleKem x = new ModuleKem();
            fixSponge(x, others);
            Object kem = inside(x, "kem");
            Object sponge = inside(kem, "sponge");
            Method start = sponge.getClass().getDeclaredMethod("start", int.class);
            start.setAccessible(true);
            start.invoke(sponge, RATE);
            long[] lanes = (long[]) inside(sponge, "lanes");
            for (int i = 0; i < lanes.length; i++) {
                lanes[i] = lane(first, i);
            }
            Method sample = kem.getClass().getDeclaredMethod("sample", int[].class);
            sample.setAccessible(true);
            sample.invoke(kem, new int[256]);
            return "enough";
        } catch (InvocationTargetException e) {
            return "throws." + e.getCause().getClass().getSimpleName();
        } catch (ReflectiveOperationException e) {
            return e.toString();
        }
    }

    private static void refusesAndStays(ModuleKem x, int set) {
        Checks.due("kemOpen(" + set + ")", () -> x.kemOpen(set), LIMIT);
        Checks.due("kemWrap(" + set + ")", () -> x.kemWrap(set), LIMIT);
        x.resize(0, 64);
        Checks.due("kemKeys(" + set + ")", () -> x.kemKeys(set), LIMIT);
        x.resize(0, 32);
        Checks.due("PUBLIC stays", () -> x.same(1, 3), true);
        Checks.due("SECRET stays", () -> x.same(2, 4), true);
        Checks.due("PACKET stays", () -> x.same(5, 7), true);
        Checks.due("SHARED's length stays", () -> x.length(6), 9);
        Checks.due("SHARED's bytes stay", () -> x.word(6, 0), 0x0700000000000000L);
    }

    /** An object with slots of the right sizes, their copies in 3, 4 and 7, and a sponge that gives only the block. */
    private static ModuleKem ready(int set, byte[] block) throws ReflectiveOperationException {
        int k = Reference.K[set];
        ModuleKem x = new ModuleKem();
        x.resize(0, 32);
        x.resize(1, Reference.publicSize(set));
        byte[] secret = new byte[Reference.secretSize(set)];
        System.arraycopy(block, 0, secret, 768 * k + 32, 32);
        Checks.put(x, 2, secret);
        x.resize(5, Reference.packetSize(set));
        x.resize(6, 9);
        x.alter(6, 0, 7);
        x.copy(1, 3);
        x.copy(2, 4);
        x.copy(5, 7);
        fixSponge(x, block);
        return x;
    }

    /**
     * A block of 56 times three bytes with n numbers of 0: one at its start, where a 281st triple would find it, the
     * others at its end, where a 279th would not. The numbers between are 4095.
     */
    private static byte[] blockWith(int n) {
        byte[] block = new byte[200];
        Arrays.fill(block, (byte) 255);
        for (int number = 0; number < 112; number++) {
            if (n > 0 && number == 0 || number > 112 - n) {
                clearNumber(block, number);
            }
        }
        return block;
    }

    private static void clearNumber(byte[] block, int number) {
        for (int bit = 12 * number; bit < 12 * number + 12; bit++) {
            block[bit / 8] &= (byte) ~(1 << bit % 8);
        }
    }

    private static void fixSponge(ModuleKem x, byte[] block) throws ReflectiveOperationException {
        Object sponge = inside(inside(x, "kem"), "sponge");
        Arrays.fill((long[]) inside(sponge, "roundConstants"), 0);
        Arrays.fill((int[]) inside(sponge, "targets"), 24);
        long[] moved = (long[]) inside(sponge, "moved");
        for (int row = 0; row < 5; row++) {
            for (int bit = 0; bit < 64; bit++) {
                setRowBits(moved, row, bit, wantedBits(block, row, bit));
            }
        }
        // Place 24 is written to in every round; with ones at 21 the last lane of the block is free of it.
        moved[20] = lane(block, 20);
        moved[21] = -1;
    }

    private static long lane(byte[] block, int lane) {
        long value = 0;
        for (int i = 7; i >= 0; i--) {
            value = value << 8 | block[8 * lane + i] & 255;
        }
        return value;
    }

    private static int wantedBits(byte[] block, int row, int bit) {
        int wanted = 0;
        for (int a = 0; a < 5; a++) {
            wanted |= (int) (lane(block, 5 * row + a) >>> bit & 1) << a;
        }
        return wanted;
    }

    /** Finds by trial the five bits that the last step of PERMUTE turns into those wanted. */
    private static void setRowBits(long[] moved, int row, int bit, int wanted) {
        for (int tried = 0; tried < 32; tried++) {
            int got = 0;
            for (int a = 0; a < 5; a++) {
                int own = tried >> a & 1;
                int next = tried >> (a + 1) % 5 & 1;
                int afterNext = tried >> (a + 2) % 5 & 1;
                got |= (own ^ (1 - next & afterNext)) << a;
            }
            if (got == wanted) {
                for (int a = 0; a < 5; a++) {
                    long mask = 1L << bit;
                    long cleared = moved[5 * row + a] & ~mask;
                    moved[5 * row + a] = (tried >> a & 1) == 1 ? cleared | mask : cleared;
                }
            }
        }
    }

    private static Object inside(Object owner, String field) throws ReflectiveOperationException {
        Field found = owner.getClass().getDeclaredField(field);
        found.setAccessible(true);
        return found.get(owner);
    }
}
