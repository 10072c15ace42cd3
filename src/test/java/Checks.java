import java.lang.reflect.InvocationTargetException;
import java.lang.reflect.Method;
import java.lang.reflect.Modifier;
import java.util.Arrays;
import java.util.Comparator;
import java.util.Random;

/** What every test here uses: running tests, answers and exceptions that are due, and bytes into an object. */
final class Checks {
    static final String ARGUMENT = "throws.IllegalArgumentException";
    static final String INDEX = "throws.IndexOutOfBoundsException";
    static final String STATE = "throws.IllegalStateException";
    static final String MALFORMED = "throws.UnsupportedOperationException";
    static final String LIMIT = "throws.ArithmeticException";

    static final int FULL = 8192;
    /** The most that a tape can have: 409 times 20 bytes, as one more would go beyond 8192. */
    static final int FULL_TAPE = 8180;

    static final int[] BAD_SLOTS = {-1, 8, Integer.MIN_VALUE, Integer.MAX_VALUE};
    static final int[] BAD_SIZES = {-1, FULL + 1, Integer.MIN_VALUE, Integer.MAX_VALUE};
    static final int[] BAD_SETS = {-1, 3, Integer.MIN_VALUE, Integer.MAX_VALUE};

    interface Call {
        Object run();
    }

    private static String running = "";
    private static int checked = 0;
    private static int wrong = 0;

    private Checks() {
    }

    /** Runs every static method of the class that takes and answers nothing as a test of its own. */
    static void run(Class<?> tests) {
        Method[] methods = tests.getDeclaredMethods();
        Arrays.sort(methods, Comparator.comparing(Method::getName));
        int count = 0;
        int failed = 0;
        for (Method method : methods) {
            if (isTest(method)) {
                count++;
                failed += passes(method) ? 0 : 1;
            }
        }
        System.out.println(tests.getName() + ": " + count + " tests with " + checked + " answers, " + failed + " fail");
        if (failed != 0 || count == 0) {
            System.exit(1);
        }
    }

    private static boolean isTest(Method method) {
        return Modifier.isStatic(method.getModifiers()) && !method.isSynthetic() && method.getParameterCount() == 0
                && method.getReturnType() == void.class;
    }

    private static boolean passes(Method method) {
        running = method.getName();
        int checkedBefore = checked;
        int wrongBefore = wrong;
        try {
            method.setAccessible(true);
            method.invoke(null);
        } catch (InvocationTargetException e) {
            wrong++;
            System.out.println(running + ": ended with " + e.getCause());
        } catch (IllegalAccessException e) {
            throw new IllegalStateException(e);
        }
        // A test that looked at nothing would pass whatever the program does.
        return wrong == wrongBefore && checked > checkedBefore;
    }

    /** The answer of a call as text; of one that throws, the exception's name behind throws. */
    static String answer(Call call) {
        try {
            return String.valueOf(call.run());
        } catch (RuntimeException e) {
            return "throws." + e.getClass().getSimpleName();
        }
    }

    static void due(String what, Call call, Object want) {
        checked++;
        String got = answer(call);
        if (!got.equals(String.valueOf(want))) {
            wrong++;
            System.out.println(running + ": " + what + " answered " + got + ", due is " + want);
        }
    }

    static void holds(String what, boolean so) {
        due(what, () -> so, true);
    }

    static byte[] randomBytes(Random random, int n) {
        byte[] bytes = new byte[n];
        random.nextBytes(bytes);
        return bytes;
    }

    static byte[] bytesOf(int value, int n) {
        byte[] bytes = new byte[n];
        Arrays.fill(bytes, (byte) value);
        return bytes;
    }

    /** Zeros but for marks at the first and the last byte and on both sides of the middle. */
    static byte[] sparse(int n, int mark) {
        byte[] bytes = new byte[n];
        for (int place : new int[] {0, n / 2 - 1, n / 2, n - 1}) {
            bytes[place] = (byte) (mark + place);
        }
        return bytes;
    }

    /**
     * Puts bytes into a slot, the way that takes the fewest of the 512 calls: over the tape, which must be empty then,
     * or, if nearly all are zeros, by resize and alter.
     */
    static void put(ModuleKem x, int slot, byte[] bytes) {
        int nonzero = 0;
        for (byte b : bytes) {
            nonzero += b != 0 ? 1 : 0;
        }
        if (nonzero + 1 < bytes.length / 20 || bytes.length > FULL_TAPE) {
            putByAltering(x, slot, bytes);
            return;
        }
        feed(x, bytes);
        x.end(slot, bytes.length);
    }

    private static void putByAltering(ModuleKem x, int slot, byte[] bytes) {
        x.resize(slot, 0);
        x.resize(slot, bytes.length);
        for (int i = 0; i < bytes.length; i++) {
            if (bytes[i] != 0) {
                x.alter(slot, i, bytes[i] & 255);
            }
        }
    }

    static void feed(ModuleKem x, byte[] bytes) {
        for (int i = 0; i < bytes.length; i += 20) {
            x.feed(intAt(bytes, i), intAt(bytes, i + 4), intAt(bytes, i + 8), intAt(bytes, i + 12),
                    intAt(bytes, i + 16));
        }
    }

    private static int intAt(byte[] bytes, int at) {
        return (int) (wordAt(bytes, at) >>> 32);
    }

    /** Eight bytes from a place on, the highest first, zeros behind the end. */
    static long wordAt(byte[] bytes, int at) {
        long value = 0;
        for (int i = at; i < at + 8; i++) {
            value = value << 8 | (i < bytes.length ? bytes[i] & 255 : 0);
        }
        return value;
    }

    /** Few bytes are read; many are put into SPARE and compared there, as reading takes more calls. */
    static void holdsBytes(String what, ModuleKem x, int slot, byte[] want) {
        due(what + ": length", () -> x.length(slot), want.length);
        if (want.length <= 160) {
            for (int i = 0; i < want.length; i += 8) {
                int at = i;
                due(what + ": bytes from " + at + " on", () -> x.word(slot, at), wordAt(want, at));
            }
            return;
        }
        int seen = slot == 7 ? 0 : slot;
        if (slot == 7) {
            x.copy(7, 0);
        }
        x.end(7, 0);
        put(x, 7, want);
        due(what + ": bytes", () -> x.same(seen, 7), true);
    }
}
