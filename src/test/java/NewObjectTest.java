/** Promise 1, and what the document says of all objects: how many calls, and that each has memory of its own. */
public final class NewObjectTest {
    public static void main(String[] args) {
        Checks.run(NewObjectTest.class);
    }

    /** "All SLOTS .. are empty." */
    private static void slotsHaveNoBytes() {
        ModuleKem x = new ModuleKem();
        for (int i = 0; i < 8; i++) {
            int slot = i;
            Checks.due("length(" + slot + ")", () -> x.length(slot), 0);
        }
    }

    private static void slotsHaveNoFirstByte() {
        ModuleKem x = new ModuleKem();
        for (int i = 0; i < 8; i++) {
            int slot = i;
            Checks.due("word(" + slot + ", 0)", () -> x.word(slot, 0), Checks.INDEX);
            Checks.due("alter(" + slot + ", 0, 0)", () -> x.alter(slot, 0, 0), Checks.INDEX);
        }
    }

    private static void slotsAreTheSame() {
        ModuleKem x = new ModuleKem();
        for (int i = 0; i < 64; i++) {
            int slot = i / 8;
            int other = i % 8;
            Checks.due("same(" + slot + ", " + other + ")", () -> x.same(slot, other), true);
        }
    }

    /** "All .. the TAPE are empty." */
    private static void tapeHasNoByte() {
        State.empty().stays("end(0, 1) of a new object", x -> x.end(0, 1), Checks.INDEX);
    }

    private static void tapeHasTwentyBytesAfterTheFirstFeed() {
        ModuleKem x = new ModuleKem();
        Checks.due("the first feed", () -> x.feed(1, 2, 3, 4, 5), 20);
        Checks.due("end(0, 21)", () -> x.end(0, 21), Checks.INDEX);
        Checks.due("end(0, 20)", () -> x.end(0, 20), 20);
    }

    private static void nothingCanBeTakenFromTheTape() {
        State.empty().stays("end(0, 0) of a new object", x -> x.end(0, 0), 0);
    }

    private static void emptySlotsGiveNoKeysNorPackets() {
        for (int i = 0; i < 3; i++) {
            int set = i;
            State.empty().stays("kemKeys(" + set + ") of a new object", x -> x.kemKeys(set), Checks.STATE);
            State.empty().stays("kemWrap(" + set + ") of a new object", x -> x.kemWrap(set), Checks.STATE);
            State.empty().stays("kemOpen(" + set + ") of a new object", x -> x.kemOpen(set), Checks.MALFORMED);
        }
    }

    /** "All memory is the suite's own": a new object is empty, whatever another one holds. */
    private static void newObjectIsEmptyBesideAnother() {
        State.filled().make();
        ModuleKem x = new ModuleKem();
        for (int i = 0; i < 8; i++) {
            int slot = i;
            Checks.due("length(" + slot + ")", () -> x.length(slot), 0);
        }
        Checks.due("feed", () -> x.feed(1, 2, 3, 4, 5), 20);
    }

    /** Two objects, call by call in turn: neither has a byte of the other, on the tape or in a slot. */
    private static void objectsAreApart() {
        ModuleKem x = new ModuleKem();
        ModuleKem y = new ModuleKem();
        for (int i = 0; i < 8; i++) {
            int slot = i;
            Checks.due("feed", () -> x.feed(slot, 1, 2, 3, 4), 20);
            Checks.due("feed of the other", () -> y.feed(100 + slot, 5, 6, 7, 8), 20);
            Checks.due("end", () -> x.end(slot, 20), 20);
            Checks.due("end of the other", () -> y.end(slot, 19), 19);
        }
        for (int i = 0; i < 8; i++) {
            int slot = i;
            Checks.due("length", () -> x.length(slot), 20);
            Checks.due("length of the other", () -> y.length(slot), 19);
            Checks.due("word", () -> x.word(slot, 0), (long) slot << 32 | 1);
            Checks.due("word of the other", () -> y.word(slot, 0), (100L + slot) << 32 | 5);
        }
    }

    /** "An object is used for at most 512 calls": 64 rounds of 8 calls, the last of which answers as the first does. */
    private static void lastOf512CallsAnswersAsTheFirst() {
        byte[] p = Reference.keys(2, new byte[32], new byte[32])[0];
        byte[][] wrapped = Reference.wrap(2, p, new byte[32]);
        byte[] altered = State.altered(wrapped[0], 0, 1);
        long opened = Checks.wordAt(wrapped[1], 0);
        long rejected = Checks.wordAt(Reference.shake256(Reference.join(new byte[32], altered), 32), 0);
        ModuleKem x = new ModuleKem();
        for (int i = 0; i < 64; i++) {
            int round = i;
            int off = round % 2;
            x.resize(0, 64);
            Checks.due("kemKeys in round " + round, () -> x.kemKeys(2), 3168);
            x.resize(0, 32);
            Checks.due("kemWrap in round " + round, () -> x.kemWrap(2), 1568);
            x.alter(5, 0, off);
            Checks.due("kemOpen in round " + round, () -> x.kemOpen(2), 1 - off);
            Checks.due("feed in round " + round, () -> x.feed(1, 2, 3, 4, 5), 20 * round + 20);
            Checks.due("word in round " + round, () -> x.word(6, 0), off == 0 ? opened : rejected);
        }
    }
}
