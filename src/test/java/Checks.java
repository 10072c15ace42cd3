import java.util.Random;

/** What every test here uses: answers that are due, exceptions that are due, and bytes in and out of an object. */
final class Checks {
    interface Call {
        Object run();
    }

    private static int checked = 0;
    private static int wrong = 0;

    private Checks() {
    }

    /** The answer of a call as text; of one that throws, the exception's name behind throws. */
    static String answer(Call call) {
        try {
            return String.valueOf(call.run());
        } catch (RuntimeException e) {
            return "throws." + e.getClass().getSimpleName();
        }
    }

    static void due(String what, Call call, Object want) {
        checked++;
        String got = answer(call);
        if (!got.equals(String.valueOf(want))) {
            wrong++;
            System.out.println(what + " answered " + got + ", due is " + want);
        }
    }

    static void holds(String what, boolean so) {
        due(what, () -> so, true);
    }

    static void finish(String name) {
        System.out.println(name + ": " + checked + " answers looked at, " + wrong + " not as due");
        if (wrong != 0 || checked == 0) {
            System.exit(1);
        }
    }

    static byte[] randomBytes(Random random, int n) {
        byte[] bytes = new byte[n];
        random.nextBytes(bytes);
        return bytes;
    }

    /** Puts bytes into a slot over the tape, which must be empty. */
    static void put(ModuleKem x, int slot, byte[] bytes) {
        for (int i = 0; i < bytes.length; i += 20) {
            x.feed(intAt(bytes, i), intAt(bytes, i + 4), intAt(bytes, i + 8), intAt(bytes, i + 12),
                    intAt(bytes, i + 16));
        }
        x.end(slot, bytes.length);
    }

    private static int intAt(byte[] bytes, int at) {
        int value = 0;
        for (int i = at; i < at + 4; i++) {
            value = value << 8 | (i < bytes.length ? bytes[i] & 255 : 0);
        }
        return value;
    }

    /** Overwrites SPARE: comparing with same needs far fewer calls than reading words. */
    static void holdsBytes(String what, ModuleKem x, int slot, byte[] want) {
        put(x, 7, want);
        due(what + ": length", () -> x.length(slot), want.length);
        due(what + ": bytes", () -> x.same(slot, 7), true);
    }
}
