import java.util.Arrays;

/** What an object holds: the bytes of its eight slots and of its tape. */
final class State {
    interface Act {
        Object on(ModuleKem x);
    }

    private static final byte[] MORE = {0, 0, 0, 1, 0, 0, 0, 2, 0, 0, 0, 3, 0, 0, 0, 4, 0, 0, 0, 5};

    private final byte[][] slots;
    private final byte[] tape;

    private State(byte[][] slots, byte[] tape) {
        this.slots = slots;
        this.tape = tape;
    }

    static State empty() {
        return new State(new byte[8][0], new byte[0]);
    }

    /** Some bytes in every slot, of another length and other values in each, and 40 on the tape. */
    static State filled() {
        State state = empty().withTape(pattern(200, 40));
        for (int slot = 0; slot < 8; slot++) {
            state = state.with(slot, pattern(20 * slot + 1, 13 + slot));
        }
        return state;
    }

    /** 8192 bytes in every slot, and all on the tape that it can have. */
    static State full() {
        State state = empty().withTape(Checks.sparse(Checks.FULL_TAPE, 99));
        for (int slot = 0; slot < 8; slot++) {
            state = state.with(slot, Checks.sparse(Checks.FULL, 10 * slot + 3));
        }
        return state;
    }

    private static byte[] pattern(int first, int n) {
        byte[] bytes = new byte[n];
        for (int i = 0; i < n; i++) {
            bytes[i] = (byte) (first + i);
        }
        return bytes;
    }

    State with(int slot, byte[] bytes) {
        byte[][] changed = slots.clone();
        changed[slot] = bytes.clone();
        return new State(changed, tape);
    }

    /** Its length must be a multiple of 20. */
    State withTape(byte[] bytes) {
        return new State(slots, bytes.clone());
    }

    byte[] slot(int slot) {
        return slots[slot].clone();
    }

    byte[] tape() {
        return tape.clone();
    }

    ModuleKem make() {
        ModuleKem x = new ModuleKem();
        for (int slot = 0; slot < 8; slot++) {
            if (slots[slot].length > 0) {
                Checks.put(x, slot, slots[slot]);
            }
        }
        Checks.feed(x, tape);
        return x;
    }

    /**
     * The call, on an object that holds this, answers what is due and leaves the object holding all that is to be
     * held after it. Each part is looked at on an object of its own, as one has not calls enough for all.
     */
    void becomes(String what, Act act, Object answer, State after) {
        for (int slot = 0; slot < 8; slot++) {
            ModuleKem x = make();
            Checks.due(what, () -> act.on(x), answer);
            Checks.holdsBytes(what + ": slot " + slot + " then", x, slot, after.slots[slot]);
        }
        ModuleKem x = make();
        Checks.due(what, () -> act.on(x), answer);
        after.holdsTape(what + ": the tape then", x);
    }

    void stays(String what, Act act, Object answer) {
        becomes(what, act, answer, this);
    }

    private void holdsTape(String what, ModuleKem x) {
        boolean fits = tape.length + 20 <= Checks.FULL;
        byte[] all = fits ? Reference.join(tape, MORE) : tape;
        Checks.due(what + ": feed", () -> x.feed(1, 2, 3, 4, 5), fits ? all.length : Checks.INDEX);
        Checks.due(what + ": end of one byte more", () -> x.end(0, all.length + 1), Checks.INDEX);
        Checks.due(what + ": end", () -> x.end(0, all.length), all.length);
        Checks.holdsBytes(what, x, 0, all);
    }

    /** For a test that changes a byte of a copy. */
    static byte[] altered(byte[] bytes, int place, int v) {
        byte[] changed = Arrays.copyOf(bytes, bytes.length);
        changed[place] ^= (byte) v;
        return changed;
    }
}
