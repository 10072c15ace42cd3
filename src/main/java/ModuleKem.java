/**
 * A key encapsulation over modules of polynomials (FIPS 203, with FIPS 202 beneath) at three parameter sets.
 * Bytes come in over a tape, lie in eight slots, and the calls of the KEM read and write those slots.
 */
public final class ModuleKem {
    private static final int SLOTS = 8;
    private static final int CAPACITY = 8192;
    private static final int FED_AT_ONCE = 20;

    private static final int RANDOM = 0;
    private static final int PUBLIC = 1;
    private static final int SECRET = 2;
    private static final int PACKET = 5;
    private static final int SHARED = 6;

    private static final int Q = 3329;
    private static final int COEFFICIENTS = 256;
    private static final int NUMBER_BITS = 12;
    private static final int NUMBERS_SIZE = 384;
    private static final int SEED_SIZE = 32;
    private static final int MAX_RANK = 4;

    private final byte[][] slots;
    private final int[] sizes;
    private final byte[] tape;
    private int tapeSize;
    private final Shape[] shapes;
    private final Kem kem;

    public ModuleKem() {
        slots = new byte[SLOTS][CAPACITY];
        sizes = new int[SLOTS];
        tape = new byte[CAPACITY];
        tapeSize = 0;
        shapes = new Shape[] {new Shape(2, 3, 10, 4), new Shape(3, 2, 10, 4), new Shape(4, 2, 11, 5)};
        kem = new Kem();
    }

    public int feed(int a, int b, int c, int d, int e) throws IndexOutOfBoundsException {
        if (tapeSize + FED_AT_ONCE > CAPACITY) {
            throw new IndexOutOfBoundsException("the tape has no room for 20 bytes more");
        }
        putOnTape(a);
        putOnTape(b);
        putOnTape(c);
        putOnTape(d);
        putOnTape(e);
        return tapeSize;
    }

    public int end(int slot, int n) throws IllegalArgumentException, IndexOutOfBoundsException {
        checkSlot(slot);
        checkSize(n);
        if (n > tapeSize) {
            throw new IndexOutOfBoundsException("the tape has fewer bytes");
        }
        System.arraycopy(tape, 0, slots[slot], 0, n);
        sizes[slot] = n;
        tapeSize = 0;
        return n;
    }

    public int copy(int from, int to) throws IllegalArgumentException {
        checkSlot(from);
        checkSlot(to);
        System.arraycopy(slots[from], 0, slots[to], 0, sizes[from]);
        sizes[to] = sizes[from];
        return sizes[to];
    }

    public int resize(int slot, int n) throws IllegalArgumentException {
        checkSlot(slot);
        checkSize(n);
        int had = sizes[slot];
        // What an earlier, longer content left behind the end must not come back.
        for (int i = had; i < n; i++) {
            slots[slot][i] = 0;
        }
        sizes[slot] = n;
        return had;
    }

    public int alter(int slot, int i, int v) throws IllegalArgumentException, IndexOutOfBoundsException {
        checkSlot(slot);
        if (v < 0 || v > 255) {
            throw new IllegalArgumentException("a byte is 0 .. 255");
        }
        checkPlace(slot, i);
        int changed = (slots[slot][i] & 255) ^ v;
        slots[slot][i] = (byte) changed;
        return changed;
    }

    public int length(int slot) throws IllegalArgumentException {
        checkSlot(slot);
        return sizes[slot];
    }

    public long word(int slot, int i) throws IllegalArgumentException, IndexOutOfBoundsException {
        checkSlot(slot);
        checkPlace(slot, i);
        long value = 0;
        for (int place = i; place < i + 8; place++) {
            int next = place < sizes[slot] ? slots[slot][place] & 255 : 0;
            value = value << 8 | next;
        }
        return value;
    }

    public boolean same(int slot, int other) throws IllegalArgumentException {
        checkSlot(slot);
        checkSlot(other);
        return sizes[slot] == sizes[other] && startAlike(slots[slot], 0, slots[other], sizes[slot]);
    }

    public int kemKeys(int set) throws IllegalArgumentException, IllegalStateException, ArithmeticException {
        Shape shape = shapeOf(set);
        checkRandom(2 * SEED_SIZE);
        kem.makeKeys(shape, slots[RANDOM], slots[PUBLIC], slots[SECRET]);
        sizes[PUBLIC] = shape.publicSize();
        sizes[SECRET] = shape.secretSize();
        return sizes[SECRET];
    }

    public int kemWrap(int set) throws IllegalArgumentException, IllegalStateException,
            UnsupportedOperationException, ArithmeticException {
        Shape shape = shapeOf(set);
        checkRandom(SEED_SIZE);
        if (sizes[PUBLIC] != shape.publicSize() || !kem.isReduced(shape, slots[PUBLIC])) {
            throw new UnsupportedOperationException("the public key is malformed");
        }
        kem.wrap(shape, slots[PUBLIC], slots[RANDOM], slots[PACKET], slots[SHARED]);
        sizes[PACKET] = shape.packetSize();
        sizes[SHARED] = SEED_SIZE;
        return sizes[PACKET];
    }

    public int kemOpen(int set) throws IllegalArgumentException, UnsupportedOperationException,
            ArithmeticException {
        Shape shape = shapeOf(set);
        if (sizes[PACKET] != shape.packetSize()) {
            throw new UnsupportedOperationException("the packet is malformed");
        }
        if (sizes[SECRET] != shape.secretSize() || !kem.holdsItsHash(shape, slots[SECRET])) {
            throw new UnsupportedOperationException("the secret key is malformed");
        }
        boolean genuine = kem.open(shape, slots[SECRET], slots[PACKET], slots[SHARED]);
        sizes[SHARED] = SEED_SIZE;
        return genuine ? 1 : 0;
    }

    private void putOnTape(int value) {
        for (int shift = 24; shift >= 0; shift -= 8) {
            tape[tapeSize] = (byte) (value >> shift);
            tapeSize++;
        }
    }

    private static void checkSlot(int slot) {
        if (slot < 0 || slot >= SLOTS) {
            throw new IllegalArgumentException("a slot is 0 .. 7");
        }
    }

    private static void checkSize(int n) {
        if (n < 0 || n > CAPACITY) {
            throw new IllegalArgumentException("a size is 0 .. 8192");
        }
    }

    private void checkPlace(int slot, int i) {
        if (i < 0 || i >= sizes[slot]) {
            throw new IndexOutOfBoundsException("the slot has no such byte");
        }
    }

    private void checkRandom(int size) {
        if (sizes[RANDOM] != size) {
            throw new IllegalStateException("RANDOM has another size");
        }
    }

    private Shape shapeOf(int set) {
        if (set < 0 || set >= shapes.length) {
            throw new IllegalArgumentException("a set is 0 .. 2");
        }
        return shapes[set];
    }

    /** Looks at all n bytes whatever they are, so that its time tells nothing of where two rows part. */
    private static boolean startAlike(byte[] row, int at, byte[] other, int n) {
        int difference = 0;
        for (int i = 0; i < n; i++) {
            difference |= row[at + i] ^ other[i];
        }
        return difference == 0;
    }

    /** The numbers of one parameter set, and the sizes that follow from them. */
    private static final class Shape {
        final int rank;
        final int keyNoise;
        final int vectorBits;
        final int scalarBits;

        Shape(int k, int e1, int du, int dv) {
            rank = k;
            keyNoise = e1;
            vectorBits = du;
            scalarBits = dv;
        }

        int numbersSize() {
            return NUMBERS_SIZE * rank;
        }

        int publicSize() {
            return numbersSize() + SEED_SIZE;
        }

        /** Where h stands in the secret key, behind its numbers and the public key; z stands behind h. */
        int hashPlace() {
            return numbersSize() + publicSize();
        }

        int secretSize() {
            return hashPlace() + 2 * SEED_SIZE;
        }

        /** The bytes of one of the polynomials U in a packet; V stands behind the last of them. */
        int vectorPartSize() {
            return COEFFICIENTS / 8 * vectorBits;
        }

        int scalarPlace() {
            return vectorPartSize() * rank;
        }

        int packetSize() {
            return scalarPlace() + COEFFICIENTS / 8 * scalarBits;
        }
    }

    /** SPONGE: start, take what is to be hashed, finish, then give as many bytes as are wanted. */
    private static final class Sponge {
        static final int SHA3_256_RATE = 136;
        static final int SHA3_512_RATE = 72;
        static final int SHAKE128_RATE = 168;
        static final int SHAKE256_RATE = 136;
        static final int SHA3_SUFFIX = 6;
        static final int SHAKE_SUFFIX = 31;

        private static final int LANES = 25;
        private static final int ROUNDS = 24;

        private final long[] lanes;
        private final long[] moved;
        private final long[] columns;
        private final int[] turns;
        private final int[] targets;
        private final long[] roundConstants;
        private int rate;
        private int place;

        Sponge() {
            lanes = new long[LANES];
            moved = new long[LANES];
            columns = new long[5];
            turns = newTurns();
            targets = newTargets();
            roundConstants = newRoundConstants();
            rate = SHA3_256_RATE;
            place = 0;
        }

        /** Lane (a, b) is kept at a + 5 b; this is the place of B[b, 2 a + 3 b]. */
        private static int target(int a, int b) {
            return b + 5 * ((2 * a + 3 * b) % 5);
        }

        private static int[] newTargets() {
            int[] made = new int[LANES];
            for (int lane = 0; lane < LANES; lane++) {
                made[lane] = target(lane % 5, lane / 5);
            }
            return made;
        }

        private static int[] newTurns() {
            int[] made = new int[LANES];
            int lane = 1;
            for (int t = 0; t < LANES - 1; t++) {
                made[lane] = (t + 1) * (t + 2) / 2 % 64;
                lane = target(lane % 5, lane / 5);
            }
            return made;
        }

        private static long[] newRoundConstants() {
            long[] made = new long[ROUNDS];
            int register = 1;
            for (int i = 0; i < ROUNDS; i++) {
                for (int j = 0; j < 7; j++) {
                    long bit = register & 1;
                    made[i] |= bit << ((1 << j) - 1);
                    register = register << 1;
                    if (register > 255) {
                        register = (register & 255) ^ 113;
                    }
                }
            }
            return made;
        }

        void start(int newRate) {
            for (int i = 0; i < LANES; i++) {
                lanes[i] = 0;
            }
            rate = newRate;
            place = 0;
        }

        void take(byte[] row, int at, int n) {
            for (int i = 0; i < n; i++) {
                mixIn(place, row[at + i]);
                place++;
                if (place == rate) {
                    permute();
                    place = 0;
                }
            }
        }

        void finish(int suffix) {
            mixIn(place, suffix);
            mixIn(rate - 1, 128);
            permute();
            place = 0;
        }

        void give(byte[] row, int at, int n) {
            for (int i = 0; i < n; i++) {
                if (place == rate) {
                    permute();
                    place = 0;
                }
                row[at + i] = (byte) (lanes[place >> 3] >>> 8 * (place & 7));
                place++;
            }
        }

        private void mixIn(int at, int value) {
            lanes[at >> 3] ^= (value & 255L) << 8 * (at & 7);
        }

        private void permute() {
            long[] a = lanes;
            long[] b = moved;
            long[] c = columns;
            for (int round = 0; round < ROUNDS; round++) {
                for (int x = 0; x < 5; x++) {
                    c[x] = a[x] ^ a[x + 5] ^ a[x + 10] ^ a[x + 15] ^ a[x + 20];
                }
                for (int x = 0; x < 5; x++) {
                    long right = c[(x + 1) % 5];
                    long mix = c[(x + 4) % 5] ^ (right << 1 | right >>> 63);
                    for (int i = x; i < LANES; i += 5) {
                        long lane = a[i] ^ mix;
                        // A turn by 0 is right too: Java shifts by 64 as it does by 0.
                        b[targets[i]] = lane << turns[i] | lane >>> (64 - turns[i]);
                    }
                }
                for (int i = 0; i < LANES; i += 5) {
                    a[i] = b[i] ^ (~b[i + 1] & b[i + 2]);
                    a[i + 1] = b[i + 1] ^ (~b[i + 2] & b[i + 3]);
                    a[i + 2] = b[i + 2] ^ (~b[i + 3] & b[i + 4]);
                    a[i + 3] = b[i + 3] ^ (~b[i + 4] & b[i]);
                    a[i + 4] = b[i + 4] ^ (~b[i] & b[i + 1]);
                }
                a[0] ^= roundConstants[round];
            }
        }
    }

    /** Coefficients as bits in bytes, and as fewer bits than they have. */
    private static final class Bits {
        private Bits() {
        }

        static void pack(int[] f, int d, byte[] row, int at) {
            int held = 0;
            int heldBits = 0;
            int next = at;
            for (int i = 0; i < COEFFICIENTS; i++) {
                held |= f[i] << heldBits;
                heldBits += d;
                while (heldBits >= 8) {
                    row[next] = (byte) held;
                    next++;
                    held >>>= 8;
                    heldBits -= 8;
                }
            }
        }

        static void unpack(byte[] row, int at, int d, int[] f) {
            int held = 0;
            int heldBits = 0;
            int next = at;
            for (int i = 0; i < COEFFICIENTS; i++) {
                while (heldBits < d) {
                    held |= (row[next] & 255) << heldBits;
                    next++;
                    heldBits += 8;
                }
                f[i] = held & ((1 << d) - 1);
                held >>>= d;
                heldBits -= d;
            }
        }

        static void packCompressed(int[] f, int d, byte[] row, int at) {
            for (int i = 0; i < COEFFICIENTS; i++) {
                f[i] = ((f[i] << (d + 1)) + Q) / (2 * Q) & ((1 << d) - 1);
            }
            pack(f, d, row, at);
        }

        static void unpackCompressed(byte[] row, int at, int d, int[] f) {
            unpack(row, at, d, f);
            for (int i = 0; i < COEFFICIENTS; i++) {
                f[i] = (Q * f[i] + (1 << (d - 1))) >> d;
            }
        }

        static void unpackNumbers(byte[] row, int at, int[] f) {
            unpack(row, at, NUMBER_BITS, f);
            for (int i = 0; i < COEFFICIENTS; i++) {
                f[i] = f[i] % Q;
            }
        }
    }

    /** Polynomials modulo Q, every coefficient 0 .. Q - 1. */
    private static final class Ring {
        private static final int ROOT = 17;
        private static final int INVERSE_OF_128 = 3303;

        /** At place i, ROOT to the power of i with its seven bits turned round. */
        private final int[] powers;

        Ring() {
            powers = new int[COEFFICIENTS / 2];
            int power = 1;
            for (int i = 0; i < powers.length; i++) {
                powers[turnedRound(i)] = power;
                power = power * ROOT % Q;
            }
        }

        private static int turnedRound(int i) {
            int result = 0;
            for (int bit = 0; bit < 7; bit++) {
                result = result << 1 | i >> bit & 1;
            }
            return result;
        }

        /** NTT, in place. */
        void transform(int[] f) {
            int next = 1;
            for (int half = 128; half >= 2; half /= 2) {
                for (int start = 0; start < COEFFICIENTS; start += 2 * half) {
                    int power = powers[next];
                    next++;
                    for (int j = start; j < start + half; j++) {
                        int product = power * f[j + half] % Q;
                        f[j + half] = (f[j] + Q - product) % Q;
                        f[j] = (f[j] + product) % Q;
                    }
                }
            }
        }

        /** UNNTT, in place. */
        void transformBack(int[] f) {
            int next = 127;
            for (int half = 2; half <= 128; half *= 2) {
                for (int start = 0; start < COEFFICIENTS; start += 2 * half) {
                    int power = powers[next];
                    next--;
                    for (int j = start; j < start + half; j++) {
                        int difference = f[j + half] + Q - f[j];
                        f[j] = (f[j] + f[j + half]) % Q;
                        f[j + half] = power * difference % Q;
                    }
                }
            }
            for (int i = 0; i < COEFFICIENTS; i++) {
                f[i] = f[i] * INVERSE_OF_128 % Q;
            }
        }

        /** Adds f * g to the sum, all three as transform leaves them. */
        void addProduct(int[] sum, int[] f, int[] g) {
            for (int i = 0; i < 64; i++) {
                // The squares of X at two neighbouring pairs are a number and its negative.
                int square = powers[64 + i];
                addPairProduct(sum, f, g, 4 * i, square);
                addPairProduct(sum, f, g, 4 * i + 2, Q - square);
            }
        }

        private static void addPairProduct(int[] sum, int[] f, int[] g, int at, int square) {
            int high = f[at + 1] * g[at + 1] % Q;
            sum[at] = (sum[at] + f[at] * g[at] + high * square) % Q;
            sum[at + 1] = (sum[at + 1] + f[at] * g[at + 1] + f[at + 1] * g[at]) % Q;
        }

        static void add(int[] sum, int[] f) {
            for (int i = 0; i < COEFFICIENTS; i++) {
                sum[i] = (sum[i] + f[i]) % Q;
            }
        }

        static void clear(int[] f) {
            for (int i = 0; i < COEFFICIENTS; i++) {
                f[i] = 0;
            }
        }

        /** Puts f minus g into g. */
        static void subtractFrom(int[] f, int[] g) {
            for (int i = 0; i < COEFFICIENTS; i++) {
                g[i] = (f[i] + Q - g[i]) % Q;
            }
        }
    }

    /**
     * KEYS, WRAP and OPEN over rows of bytes that the caller has found to be of the right sizes.
     * Whatever may throw comes before the first write to a row of the caller, so that a throw changes nothing.
     */
    private static final class Kem {
        private static final int SAMPLE_TRIPLES = 280;
        private static final int WRAP_NOISE = 2;
        private static final int MAX_KEY_NOISE = 3;
        private static final int MAX_PACKET = 1568;

        private final Sponge sponge;
        private final Ring ring;
        private final int[][] matrix;
        private final int[][] vector;
        private final int[] sum;
        private final int[] term;
        private final byte[] counters;
        private final byte[] three;
        private final byte[] noiseBytes;
        private final byte[] hash;
        private final byte[] message;
        private final byte[] encrypted;
        /** The 64 bytes of the last SHA3-512: a seed or key, then the seed of all noise. */
        private final byte[] seeds;

        Kem() {
            sponge = new Sponge();
            ring = new Ring();
            matrix = new int[MAX_RANK * MAX_RANK][COEFFICIENTS];
            vector = new int[MAX_RANK][COEFFICIENTS];
            sum = new int[COEFFICIENTS];
            term = new int[COEFFICIENTS];
            counters = new byte[2];
            three = new byte[3];
            noiseBytes = new byte[64 * MAX_KEY_NOISE];
            hash = new byte[SEED_SIZE];
            message = new byte[SEED_SIZE];
            encrypted = new byte[MAX_PACKET];
            seeds = new byte[2 * SEED_SIZE];
        }

        void makeKeys(Shape shape, byte[] random, byte[] publicKey, byte[] secretKey) {
            int k = shape.rank;
            sponge.start(Sponge.SHA3_512_RATE);
            sponge.take(random, 0, SEED_SIZE);
            counters[0] = (byte) k;
            sponge.take(counters, 0, 1);
            sponge.finish(Sponge.SHA3_SUFFIX);
            sponge.give(seeds, 0, 2 * SEED_SIZE);
            sampleMatrix(k, seeds, 0);
            fillVector(shape);
            for (int i = 0; i < k; i++) {
                fillWithNoise(sum, shape.keyNoise, k + i);
                ring.transform(sum);
                for (int j = 0; j < k; j++) {
                    ring.addProduct(sum, matrix[i * k + j], vector[j]);
                }
                Bits.pack(sum, NUMBER_BITS, publicKey, NUMBERS_SIZE * i);
                Bits.pack(vector[i], NUMBER_BITS, secretKey, NUMBERS_SIZE * i);
            }
            System.arraycopy(seeds, 0, publicKey, shape.numbersSize(), SEED_SIZE);
            System.arraycopy(publicKey, 0, secretKey, shape.numbersSize(), shape.publicSize());
            fillHash(publicKey, 0, shape.publicSize());
            System.arraycopy(hash, 0, secretKey, shape.hashPlace(), SEED_SIZE);
            System.arraycopy(random, SEED_SIZE, secretKey, shape.hashPlace() + SEED_SIZE, SEED_SIZE);
        }

        /** Whether every number of 12 bits in the public key is below Q. */
        boolean isReduced(Shape shape, byte[] publicKey) {
            for (int i = 0; i < shape.rank; i++) {
                Bits.unpack(publicKey, NUMBERS_SIZE * i, NUMBER_BITS, term);
                for (int j = 0; j < COEFFICIENTS; j++) {
                    if (term[j] >= Q) {
                        return false;
                    }
                }
            }
            return true;
        }

        void wrap(Shape shape, byte[] publicKey, byte[] random, byte[] packet, byte[] shared) {
            fillHash(publicKey, 0, shape.publicSize());
            deriveSeeds(random, hash, 0);
            encrypt(shape, publicKey, 0, random);
            System.arraycopy(encrypted, 0, packet, 0, shape.packetSize());
            System.arraycopy(seeds, 0, shared, 0, SEED_SIZE);
        }

        /** Whether h in the secret key is the hash of the public key in it. */
        boolean holdsItsHash(Shape shape, byte[] secretKey) {
            fillHash(secretKey, shape.numbersSize(), shape.publicSize());
            return startAlike(secretKey, shape.hashPlace(), hash, SEED_SIZE);
        }

        /** Answers whether encrypting the message found in the packet gives that packet. */
        boolean open(Shape shape, byte[] secretKey, byte[] packet, byte[] shared) {
            recoverMessage(shape, secretKey, packet);
            deriveSeeds(message, secretKey, shape.hashPlace());
            encrypt(shape, secretKey, shape.numbersSize(), message);
            boolean genuine = startAlike(packet, 0, encrypted, shape.packetSize());
            if (genuine) {
                System.arraycopy(seeds, 0, shared, 0, SEED_SIZE);
            } else {
                sponge.start(Sponge.SHAKE256_RATE);
                sponge.take(secretKey, shape.hashPlace() + SEED_SIZE, SEED_SIZE);
                sponge.take(packet, 0, shape.packetSize());
                sponge.finish(Sponge.SHAKE_SUFFIX);
                sponge.give(shared, 0, SEED_SIZE);
            }
            return genuine;
        }

        private void recoverMessage(Shape shape, byte[] secretKey, byte[] packet) {
            Ring.clear(sum);
            for (int j = 0; j < shape.rank; j++) {
                Bits.unpackCompressed(packet, shape.vectorPartSize() * j, shape.vectorBits, vector[j]);
                ring.transform(vector[j]);
                Bits.unpackNumbers(secretKey, NUMBERS_SIZE * j, term);
                ring.addProduct(sum, term, vector[j]);
            }
            ring.transformBack(sum);
            Bits.unpackCompressed(packet, shape.scalarPlace(), shape.scalarBits, term);
            Ring.subtractFrom(term, sum);
            Bits.packCompressed(sum, 1, message, 0);
        }

        /** ENCRYPT into encrypted; P stands in the key from a place on, r in the second half of the seeds. */
        private void encrypt(Shape shape, byte[] key, int at, byte[] plain) {
            sampleMatrix(shape.rank, key, at + shape.numbersSize());
            fillVector(shape);
            for (int i = 0; i < shape.rank; i++) {
                encryptVectorPart(shape, i);
            }
            encryptScalar(shape, key, at, plain);
        }

        private void encryptVectorPart(Shape shape, int i) {
            int k = shape.rank;
            Ring.clear(sum);
            for (int j = 0; j < k; j++) {
                ring.addProduct(sum, matrix[j * k + i], vector[j]);
            }
            ring.transformBack(sum);
            fillWithNoise(term, WRAP_NOISE, k + i);
            Ring.add(sum, term);
            Bits.packCompressed(sum, shape.vectorBits, encrypted, shape.vectorPartSize() * i);
        }

        private void encryptScalar(Shape shape, byte[] key, int at, byte[] plain) {
            Ring.clear(sum);
            for (int j = 0; j < shape.rank; j++) {
                Bits.unpackNumbers(key, at + NUMBERS_SIZE * j, term);
                ring.addProduct(sum, term, vector[j]);
            }
            ring.transformBack(sum);
            fillWithNoise(term, WRAP_NOISE, 2 * shape.rank);
            Ring.add(sum, term);
            Bits.unpackCompressed(plain, 0, 1, term);
            Ring.add(sum, term);
            Bits.packCompressed(sum, shape.scalarBits, encrypted, shape.scalarPlace());
        }

        /** A[i, j] goes to row i k + j of the matrix. */
        private void sampleMatrix(int k, byte[] row, int at) {
            for (int i = 0; i < k; i++) {
                for (int j = 0; j < k; j++) {
                    sponge.start(Sponge.SHAKE128_RATE);
                    sponge.take(row, at, SEED_SIZE);
                    counters[0] = (byte) j;
                    counters[1] = (byte) i;
                    sponge.take(counters, 0, 2);
                    sponge.finish(Sponge.SHAKE_SUFFIX);
                    sample(matrix[i * k + j]);
                }
            }
        }

        private void sample(int[] f) {
            int filled = 0;
            for (int triple = 0; triple < SAMPLE_TRIPLES && filled < COEFFICIENTS; triple++) {
                sponge.give(three, 0, 3);
                int a = three[0] & 255;
                int b = three[1] & 255;
                int c = three[2] & 255;
                int first = a + 256 * (b % 16);
                int second = b / 16 + 16 * c;
                if (first < Q) {
                    f[filled] = first;
                    filled++;
                }
                if (second < Q && filled < COEFFICIENTS) {
                    f[filled] = second;
                    filled++;
                }
            }
            if (filled < COEFFICIENTS) {
                throw new ArithmeticException("280 times three bytes are not enough");
            }
        }

        /** The transformed noise 0 .. k - 1: S of KEYS, Y of ENCRYPT. */
        private void fillVector(Shape shape) {
            for (int i = 0; i < shape.rank; i++) {
                fillWithNoise(vector[i], shape.keyNoise, i);
                ring.transform(vector[i]);
            }
        }

        private void fillWithNoise(int[] f, int e, int number) {
            sponge.start(Sponge.SHAKE256_RATE);
            sponge.take(seeds, SEED_SIZE, SEED_SIZE);
            counters[0] = (byte) number;
            sponge.take(counters, 0, 1);
            sponge.finish(Sponge.SHAKE_SUFFIX);
            sponge.give(noiseBytes, 0, 64 * e);
            Bits.unpack(noiseBytes, 0, 2 * e, f);
            for (int i = 0; i < COEFFICIENTS; i++) {
                int plus = Integer.bitCount(f[i] & ((1 << e) - 1));
                int minus = Integer.bitCount(f[i] >> e);
                f[i] = (plus + Q - minus) % Q;
            }
        }

        private void fillHash(byte[] row, int at, int n) {
            sponge.start(Sponge.SHA3_256_RATE);
            sponge.take(row, at, n);
            sponge.finish(Sponge.SHA3_SUFFIX);
            sponge.give(hash, 0, SEED_SIZE);
        }

        /** K | r of a message and the hash of a public key. */
        private void deriveSeeds(byte[] plain, byte[] row, int hashAt) {
            sponge.start(Sponge.SHA3_512_RATE);
            sponge.take(plain, 0, SEED_SIZE);
            sponge.take(row, hashAt, SEED_SIZE);
            sponge.finish(Sponge.SHA3_SUFFIX);
            sponge.give(seeds, 0, 2 * SEED_SIZE);
        }
    }
}
