import java.util.Arrays;

/**
 * "if 280 times three are not enough: ArithmeticException", in SAMPLE. No seed is known that comes to it, so this test
 * reaches inside: it lets the sponge of an object move every lane to place 24, by which PERMUTE gives the same chosen
 * block each time. 5 blocks of 168 bytes are 280 times three, and the hash of anything is the block's start.
 */
public final class SampleLimitTest {
    private static final int RATE = 168;

    public static void main(String[] args) {
        Checks.run(SampleLimitTest.class);
    }

    /** Slots that every call takes but for the limit: the noise of such a sponge is 0, and so is the packet. */
    private static State ready(int set, int random, byte[] block) {
        byte[] secret = new byte[Reference.secretSize(set)];
        System.arraycopy(block, 0, secret, secret.length - 64, 32);
        return State.filled().with(Example.RANDOM, new byte[random])
                .with(Example.PUBLIC, new byte[Reference.publicSize(set)])
                .with(Example.SECRET, secret)
                .with(Example.PACKET, new byte[Reference.packetSize(set)]);
    }

    private static void refuses(String what, State before, byte[] block, State.Act act, String exception) {
        before.stays(what, x -> {
            fixSponge(x, block);
            return act.on(x);
        }, exception);
    }

    /** 51 numbers below q in each block make 255; and nothing changes. */
    private static void keysAreRefusedWith255() {
        for (int i = 0; i < 3; i++) {
            int set = i;
            byte[] block = blockWith(51);
            refuses("kemKeys(" + set + ")", ready(set, 64, block), block, x -> x.kemKeys(set), Checks.LIMIT);
        }
    }

    private static void wrappingIsRefusedWith255() {
        for (int i = 0; i < 3; i++) {
            int set = i;
            byte[] block = blockWith(51);
            refuses("kemWrap(" + set + ")", ready(set, 32, block), block, x -> x.kemWrap(set), Checks.LIMIT);
        }
    }

    private static void openingIsRefusedWith255() {
        for (int i = 0; i < 3; i++) {
            int set = i;
            byte[] block = blockWith(51);
            refuses("kemOpen(" + set + ")", ready(set, 0, block), block, x -> x.kemOpen(set), Checks.LIMIT);
        }
    }

    private static void allAreRefusedWithNone() {
        for (int i = 0; i < 3; i++) {
            int set = i;
            byte[] block = blockWith(0);
            refuses("kemKeys(" + set + ")", ready(set, 64, block), block, x -> x.kemKeys(set), Checks.LIMIT);
            refuses("kemWrap(" + set + ")", ready(set, 32, block), block, x -> x.kemWrap(set), Checks.LIMIT);
            refuses("kemOpen(" + set + ")", ready(set, 0, block), block, x -> x.kemOpen(set), Checks.LIMIT);
        }
    }

    /** 52 numbers below q in each block make 260. */
    private static void noneIsRefusedWith256() {
        for (int i = 0; i < 3; i++) {
            int set = i;
            byte[] block = blockWith(52);
            ModuleKem x = ready(set, 32, block).make();
            fixSponge(x, block);
            Checks.due("kemOpen(" + set + ")", () -> x.kemOpen(set), 1);
            Checks.due("kemWrap(" + set + ")", () -> x.kemWrap(set), Reference.packetSize(set));
            x.resize(0, 64);
            Checks.due("kemKeys(" + set + ")", () -> x.kemKeys(set), Reference.secretSize(set));
        }
    }

    /** What is thrown first where the limit would be come to as well. */
    private static void othersAreThrownBeforeTheLimit() {
        for (int i = 0; i < 3; i++) {
            int set = i;
            byte[] block = blockWith(51);
            State ready = ready(set, 33, block);
            for (int bad : Checks.BAD_SETS) {
                refuses("kemKeys(" + bad + ")", ready, block, x -> x.kemKeys(bad), Checks.ARGUMENT);
                refuses("kemWrap(" + bad + ")", ready, block, x -> x.kemWrap(bad), Checks.ARGUMENT);
                refuses("kemOpen(" + bad + ")", ready, block, x -> x.kemOpen(bad), Checks.ARGUMENT);
            }
            refuses("kemKeys, RANDOM of 33", ready, block, x -> x.kemKeys(set), Checks.STATE);
            refuses("kemWrap, RANDOM of 33", ready, block, x -> x.kemWrap(set), Checks.STATE);
            State shortened = ready(set, 32, block).with(Example.PUBLIC, new byte[1]).with(Example.PACKET, new byte[1]);
            refuses("kemWrap, PUBLIC of 1", shortened, block, x -> x.kemWrap(set), Checks.MALFORMED);
            refuses("kemOpen, PACKET of 1", shortened, block, x -> x.kemOpen(set), Checks.MALFORMED);
            State spoilt = ready(set, 32, blockWith(0))
                    .with(Example.PUBLIC, Example.withNumber(new byte[Reference.publicSize(set)], 0, 3329));
            refuses("kemWrap, a number of q", spoilt, block, x -> x.kemWrap(set), Checks.MALFORMED);
            refuses("kemOpen, another hash", spoilt, block, x -> x.kemOpen(set), Checks.MALFORMED);
        }
    }

    /** With the first block set apart from the other four, the 256th number can be the very last of the 280 triples. */
    private static void lastNumberOfTheLastThreeCounts() {
        Checks.due("52 and four times 51 numbers", () -> sampled(blockWith(52), blockWith(51)), "enough");
    }

    /** A 281st triple would have the 256th. */
    private static void oneThreeMoreDoesNotCount() {
        Checks.due("51 and four times 51 numbers", () -> sampled(blockWith(51), blockWith(51)), Checks.LIMIT);
    }

    private static String sampled(byte[] first, byte[] others) {
        ModuleKem x = new ModuleKem();
        fixSponge(x, others);
        Object sponge = Inside.sponge(x);
        Inside.call(sponge, "start", RATE);
        long[] lanes = (long[]) Inside.field(sponge, "lanes");
        for (int i = 0; i < lanes.length; i++) {
            lanes[i] = lane(first, i);
        }
        Inside.call(Inside.field(x, "kem"), "sample", (Object) new int[256]);
        return "enough";
    }

    /**
     * A block of 56 times three bytes with n numbers of 0: one at its start, where a 281st triple would find it, the
     * others at its end, where a 279th would not. The numbers between are 4095.
     */
    private static byte[] blockWith(int n) {
        byte[] block = new byte[200];
        Arrays.fill(block, (byte) 255);
        for (int number = 0; number < 112; number++) {
            if (n > 0 && number == 0 || number > 112 - n) {
                clearNumber(block, number);
            }
        }
        return block;
    }

    private static void clearNumber(byte[] block, int number) {
        for (int bit = 12 * number; bit < 12 * number + 12; bit++) {
            block[bit / 8] &= (byte) ~(1 << bit % 8);
        }
    }

    private static void fixSponge(ModuleKem x, byte[] block) {
        Object sponge = Inside.sponge(x);
        Arrays.fill((long[]) Inside.field(sponge, "roundConstants"), 0);
        Arrays.fill((int[]) Inside.field(sponge, "targets"), 24);
        long[] moved = (long[]) Inside.field(sponge, "moved");
        for (int row = 0; row < 5; row++) {
            for (int bit = 0; bit < 64; bit++) {
                setRowBits(moved, row, bit, wantedBits(block, row, bit));
            }
        }
        // Place 24 is written to in every round; with ones at 21 the last lane of the block is free of it.
        moved[20] = lane(block, 20);
        moved[21] = -1;
    }

    private static long lane(byte[] block, int lane) {
        long value = 0;
        for (int i = 7; i >= 0; i--) {
            value = value << 8 | block[8 * lane + i] & 255;
        }
        return value;
    }

    private static int wantedBits(byte[] block, int row, int bit) {
        int wanted = 0;
        for (int a = 0; a < 5; a++) {
            wanted |= (int) (lane(block, 5 * row + a) >>> bit & 1) << a;
        }
        return wanted;
    }

    /** Finds by trial the five bits that the last step of PERMUTE turns into those wanted. */
    private static void setRowBits(long[] moved, int row, int bit, int wanted) {
        for (int tried = 0; tried < 32; tried++) {
            int got = 0;
            for (int a = 0; a < 5; a++) {
                int own = tried >> a & 1;
                int next = tried >> (a + 1) % 5 & 1;
                int afterNext = tried >> (a + 2) % 5 & 1;
                got |= (own ^ (1 - next & afterNext)) << a;
            }
            if (got == wanted) {
                for (int a = 0; a < 5; a++) {
                    long mask = 1L << bit;
                    long cleared = moved[5 * row + a] & ~mask;
                    moved[5 * row + a] = (tried >> a & 1) == 1 ? cleared | mask : cleared;
                }
            }
        }
    }
}
