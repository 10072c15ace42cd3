import java.util.Arrays;

/** The whole document once more over Reference, with arrays that are made anew on each change. */
final class Model {
    private final byte[][] slots = new byte[8][0];
    private byte[] tape = new byte[0];

    int feed(int a, int b, int c, int d, int e) {
        if (tape.length > 8172) {
            throw new IndexOutOfBoundsException();
        }
        for (int v : new int[] {a, b, c, d, e}) {
            tape = Reference.join(tape, new byte[] {(byte) (v >> 24), (byte) (v >> 16), (byte) (v >> 8), (byte) v});
        }
        return tape.length;
    }

    int end(int slot, int n) {
        range(slot, 7);
        range(n, 8192);
        place(n <= tape.length);
        slots[slot] = Arrays.copyOf(tape, n);
        tape = new byte[0];
        return n;
    }

    int copy(int from, int to) {
        range(from, 7);
        range(to, 7);
        slots[to] = slots[from].clone();
        return slots[to].length;
    }

    int resize(int slot, int n) {
        range(slot, 7);
        range(n, 8192);
        int had = slots[slot].length;
        slots[slot] = Arrays.copyOf(slots[slot], n);
        return had;
    }

    int alter(int slot, int i, int v) {
        range(slot, 7);
        range(v, 255);
        place(i >= 0 && i < slots[slot].length);
        slots[slot][i] ^= (byte) v;
        return slots[slot][i] & 255;
    }

    int length(int slot) {
        range(slot, 7);
        return slots[slot].length;
    }

    long word(int slot, int i) {
        range(slot, 7);
        place(i >= 0 && i < slots[slot].length);
        byte[] eight = Arrays.copyOfRange(slots[slot], i, i + 8);
        long value = 0;
        for (byte b : eight) {
            value = value * 256 + (b & 255);
        }
        return value;
    }

    boolean same(int slot, int other) {
        range(slot, 7);
        range(other, 7);
        return Arrays.equals(slots[slot], slots[other]);
    }

    int kemKeys(int set) {
        range(set, 2);
        random(64);
        byte[][] keys = Reference.keys(set, Reference.part(slots[0], 0, 32), Reference.part(slots[0], 32, 32));
        slots[1] = keys[0];
        slots[2] = keys[1];
        return slots[2].length;
    }

    int kemWrap(int set) {
        range(set, 2);
        random(32);
        wellFormed(slots[1].length == Reference.publicSize(set));
        for (int j = 0; j < Reference.K[set]; j++) {
            for (int v : Reference.unbits(slots[1], 384 * j, 12)) {
                wellFormed(v < Reference.Q);
            }
        }
        byte[][] wrapped = Reference.wrap(set, slots[1], slots[0]);
        slots[5] = wrapped[0];
        slots[6] = wrapped[1];
        return slots[5].length;
    }

    int kemOpen(int set) {
        range(set, 2);
        int k = Reference.K[set];
        wellFormed(slots[5].length == Reference.packetSize(set));
        wellFormed(slots[2].length == Reference.secretSize(set));
        byte[] p = Reference.part(slots[2], 384 * k, Reference.publicSize(set));
        wellFormed(Arrays.equals(Reference.part(slots[2], 768 * k + 32, 32), Reference.sha3(256, p)));
        byte[][] opened = Reference.open(set, slots[2], slots[5]);
        slots[6] = opened[0];
        return opened[1][0];
    }

    private static void range(int v, int most) {
        if (v < 0 || v > most) {
            throw new IllegalArgumentException();
        }
    }

    private static void place(boolean there) {
        if (!there) {
            throw new IndexOutOfBoundsException();
        }
    }

    private void random(int size) {
        if (slots[0].length != size) {
            throw new IllegalStateException();
        }
    }

    private static void wellFormed(boolean so) {
        if (!so) {
            throw new UnsupportedOperationException();
        }
    }
}
