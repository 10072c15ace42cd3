import java.util.Random;

/** Runs of up to 512 calls at random, beside the model of the whole document: every answer must be the same. */
public final class RandomRunsTest {
    private static final int RUNS = 90;
    private static final int CALLS = 512;
    private static final int MOST_AT_ONCE = 4;

    private final Random random;
    private final ModuleKem kem = new ModuleKem();
    private final Model model = new Model();
    private final String name;
    private final int usualSet;
    private int calls = 0;

    private RandomRunsTest(int run) {
        random = new Random(run);
        name = "run " + run;
        usualSet = run % 3;
    }

    public static void main(String[] args) {
        Checks.run(RandomRunsTest.class);
    }

    private static void everyAnswerIsTheModels() {
        for (int run = 0; run < RUNS; run++) {
            RandomRunsTest test = new RandomRunsTest(run);
            while (test.calls + MOST_AT_ONCE <= CALLS) {
                test.callAtRandom();
            }
        }
    }

    private void compare(String call, Checks.Call got, Checks.Call want) {
        calls++;
        Checks.due(name + ": " + call + ", call " + calls, got, Checks.answer(want));
    }

    private void callAtRandom() {
        int slot = slot();
        int other = slot();
        int n = size();
        switch (random.nextInt(12)) {
            case 0, 1 -> feed();
            case 2 -> compare("end", () -> kem.end(slot, n), () -> model.end(slot, n));
            case 3 -> compare("copy", () -> kem.copy(slot, other), () -> model.copy(slot, other));
            case 4 -> compare("resize", () -> kem.resize(slot, n), () -> model.resize(slot, n));
            case 5 -> alter(slot);
            case 6 -> compare("length", () -> kem.length(slot), () -> model.length(slot));
            case 7, 8 -> word(slot);
            case 9 -> compare("same", () -> kem.same(slot, other), () -> model.same(slot, other));
            default -> kemCall();
        }
    }

    private void feed() {
        int times = 1 + random.nextInt(MOST_AT_ONCE);
        for (int i = 0; i < times; i++) {
            int a = random.nextInt();
            int b = random.nextInt();
            compare("feed", () -> kem.feed(a, b, -a, -b, a ^ b), () -> model.feed(a, b, -a, -b, a ^ b));
        }
    }

    private void alter(int slot) {
        int i = place();
        int v = random.nextInt(258) - 1;
        compare("alter", () -> kem.alter(slot, i, v), () -> model.alter(slot, i, v));
    }

    private void word(int slot) {
        int i = place();
        compare("word", () -> kem.word(slot, i), () -> model.word(slot, i));
    }

    /** Often with what the call needs put right first, so that it does more than throw. */
    private void kemCall() {
        int set = random.nextInt(10) == 0 ? random.nextInt(5) - 1 : usualSet;
        int kind = random.nextInt(3);
        if (random.nextInt(3) != 0) {
            int n = kind == 0 ? 64 : 32;
            compare("resize", () -> kem.resize(0, n), () -> model.resize(0, n));
        }
        if (kind == 0) {
            compare("kemKeys", () -> kem.kemKeys(set), () -> model.kemKeys(set));
        } else if (kind == 1) {
            compare("kemWrap", () -> kem.kemWrap(set), () -> model.kemWrap(set));
        } else {
            if (random.nextBoolean()) {
                alter(5);
            }
            compare("kemOpen", () -> kem.kemOpen(set), () -> model.kemOpen(set));
        }
        int slot = new int[] {1, 2, 5, 6}[random.nextInt(4)];
        word(slot);
    }

    /** Keys and packets are seldom spoilt, so that some of them are opened. */
    private int slot() {
        if (random.nextInt(30) == 0) {
            return random.nextInt(12) - 2;
        }
        int[] others = {0, 3, 4, 6, 7};
        return random.nextInt(5) == 0 ? random.nextInt(8) : others[random.nextInt(others.length)];
    }

    private int size() {
        int[] edges = {-1, 0, 20, 32, 64, 768, 800, 1088, 1184, 1568, 1632, 2400, 3168, 8192, 8193};
        return random.nextInt(3) == 0 ? edges[random.nextInt(edges.length)] : random.nextInt(100);
    }

    private int place() {
        return random.nextInt(4) == 0 ? random.nextInt(3200) - 1 : random.nextInt(70) - 1;
    }
}
