import java.util.Random;

/** Keys, a packet and its key, as the document has them, and what an object holds before each call that makes them. */
final class Example {
    static final int RANDOM = 0;
    static final int PUBLIC = 1;
    static final int SECRET = 2;
    static final int PACKET = 5;
    static final int SHARED = 6;

    final int set;
    final byte[] random;
    final byte[] publicKey;
    final byte[] secretKey;
    final byte[] message;
    final byte[] packet;
    final byte[] key;

    Example(int set, byte[] random, byte[] message) {
        this.set = set;
        this.random = random;
        this.message = message;
        byte[][] keys = Reference.keys(set, Reference.part(random, 0, 32), Reference.part(random, 32, 32));
        publicKey = keys[0];
        secretKey = keys[1];
        byte[][] wrapped = Reference.wrap(set, publicKey, message);
        packet = wrapped[0];
        key = wrapped[1];
    }

    /** One of any number of examples at random. */
    static Example of(int set, int number) {
        Random random = new Random(1000 * set + number);
        return new Example(set, Checks.randomBytes(random, 64), Checks.randomBytes(random, 32));
    }

    State beforeKeys() {
        return State.filled().with(RANDOM, random);
    }

    State afterKeys() {
        return beforeKeys().with(PUBLIC, publicKey).with(SECRET, secretKey);
    }

    State beforeWrap() {
        return State.filled().with(RANDOM, message).with(PUBLIC, publicKey);
    }

    State afterWrap() {
        return beforeWrap().with(PACKET, packet).with(SHARED, key);
    }

    State beforeOpen() {
        return State.filled().with(SECRET, secretKey).with(PACKET, packet);
    }

    /** The key for a packet that ENCRYPT did not give. */
    byte[] rejection(byte[] c) {
        return Reference.shake256(Reference.join(Reference.part(random, 32, 32), c), 32);
    }

    /** The number of 12 bits at a place among those of a key. */
    static int number(byte[] bytes, int place) {
        int value = 0;
        for (int bit = 0; bit < 12; bit++) {
            value |= Reference.bit(bytes, 12 * place + bit) << bit;
        }
        return value;
    }

    static byte[] withNumber(byte[] bytes, int place, int value) {
        byte[] changed = bytes.clone();
        for (int bit = 0; bit < 12; bit++) {
            int j = 12 * place + bit;
            int cleared = changed[j / 8] & ~(1 << j % 8);
            changed[j / 8] = (byte) (cleared | (value >> bit & 1) << j % 8);
        }
        return changed;
    }

    /** A secret key of other numbers, or with another P, needs the hash of the P that it has. */
    static byte[] withItsHash(int set, byte[] secretKey) {
        int k = Reference.K[set];
        byte[] p = Reference.part(secretKey, 384 * k, Reference.publicSize(set));
        byte[] changed = secretKey.clone();
        System.arraycopy(Reference.sha3(256, p), 0, changed, 768 * k + 32, 32);
        return changed;
    }
}
