import java.io.IOException;
import java.lang.management.ManagementFactory;
import java.lang.reflect.Array;
import java.lang.reflect.Executable;
import java.lang.reflect.Field;
import java.lang.reflect.Method;
import java.lang.reflect.Modifier;
import java.nio.file.Files;
import java.nio.file.Path;
import java.util.ArrayList;
import java.util.Arrays;
import java.util.List;
import java.util.Set;
import java.util.TreeSet;

/** The face, what LANGUAGE.md says of members and words, and the room that an object and its calls take. */
public final class LanguageTest {
    private static final Path SOURCE = Path.of("src/main/java/ModuleKem.java");
    private static final String[] FACE = {
        "int alter(int, int, int) IllegalArgumentException, IndexOutOfBoundsException",
        "int copy(int, int) IllegalArgumentException",
        "int end(int, int) IllegalArgumentException, IndexOutOfBoundsException",
        "int feed(int, int, int, int, int) IndexOutOfBoundsException",
        "int kemKeys(int) IllegalArgumentException, IllegalStateException, ArithmeticException",
        "int kemOpen(int) IllegalArgumentException, UnsupportedOperationException, ArithmeticException",
        "int kemWrap(int) IllegalArgumentException, IllegalStateException, UnsupportedOperationException, "
                + "ArithmeticException",
        "int length(int) IllegalArgumentException",
        "int resize(int, int) IllegalArgumentException",
        "boolean same(int, int) IllegalArgumentException",
        "long word(int, int) IllegalArgumentException, IndexOutOfBoundsException",
    };

    public static void main(String[] args) {
        Checks.run(LanguageTest.class);
    }

    private static void faceIsTheDocuments() {
        Checks.holds("the class is public and final",
                Modifier.isPublic(ModuleKem.class.getModifiers()) && Modifier.isFinal(ModuleKem.class.getModifiers()));
        Checks.holds("one constructor without parameters", ModuleKem.class.getDeclaredConstructors().length == 1
                && ModuleKem.class.getConstructors().length == 1
                && ModuleKem.class.getConstructors()[0].getParameterCount() == 0);
        Set<String> found = new TreeSet<>();
        for (Method method : ModuleKem.class.getDeclaredMethods()) {
            if (!Modifier.isPrivate(method.getModifiers())) {
                found.add(method.getReturnType() + " " + method.getName() + "(" + names(method.getParameterTypes())
                        + ") " + names(method.getExceptionTypes()));
            }
        }
        Checks.due("the methods that are not private", () -> found, new TreeSet<>(Arrays.asList(FACE)));
        for (Field field : ModuleKem.class.getDeclaredFields()) {
            Checks.holds(field + " is private", Modifier.isPrivate(field.getModifiers()));
        }
    }

    private static String names(Class<?>[] types) {
        List<String> names = new ArrayList<>();
        for (Class<?> type : types) {
            names.add(type.getSimpleName());
        }
        return String.join(", ", names);
    }

    private static List<Class<?>> classes() {
        List<Class<?>> all = new ArrayList<>(Arrays.asList(ModuleKem.class.getDeclaredClasses()));
        all.add(ModuleKem.class);
        return all;
    }

    private static void membersKeepTheRules() {
        Set<String> publicNames = new TreeSet<>();
        for (Method method : ModuleKem.class.getDeclaredMethods()) {
            if (Modifier.isPublic(method.getModifiers())) {
                publicNames.add(method.getName());
            }
        }
        Checks.holds("at most twelve classes", classes().size() <= 12);
        for (Class<?> type : classes()) {
            Checks.holds(type + " is static or the class of the face",
                    type == ModuleKem.class || Modifier.isStatic(type.getModifiers()));
            Checks.holds(type + " is not public", type == ModuleKem.class || !Modifier.isPublic(type.getModifiers()));
            int own = 0;
            for (Field field : type.getDeclaredFields()) {
                boolean isStatic = Modifier.isStatic(field.getModifiers());
                Checks.holds(field + ", being static, is final", !isStatic || Modifier.isFinal(field.getModifiers()));
                own += isStatic ? 0 : 1;
            }
            Checks.holds(type + " has at most twenty fields", own <= 20);
            List<Executable> bodies = new ArrayList<>(Arrays.asList(type.getDeclaredMethods()));
            bodies.addAll(Arrays.asList(type.getDeclaredConstructors()));
            for (Executable body : bodies) {
                Checks.holds(body + " has at most seven parameters", body.getParameterCount() <= 7);
                Checks.holds(body + " bears no name of the face",
                        Modifier.isPublic(body.getModifiers()) || !publicNames.contains(body.getName()));
            }
        }
    }

    private static void sourceKeepsTheRules() throws IOException {
        String source = Files.readString(SOURCE);
        String[] ruledOut = {"package ", "import ", "->", "::", "finally", "synchronized", "assert ", "Exact(",
            "static {", "hashCode", "toString", "getMessage", "new Random", "System.nanoTime", "System.currentTime",
            "Thread", "double", "float", "while (true)", "for (;;)"};
        for (String word : ruledOut) {
            Checks.holds("the source has no " + word, !source.contains(word));
        }
    }

    private static void objectIsSmall() throws ReflectiveOperationException {
        long[] room = new long[2];
        count(new ModuleKem(), room);
        Checks.holds("an object is " + room[0] + " objects and arrays, at most 100", room[0] <= 100);
        Checks.holds("an object has " + room[1] + " fields and elements, at most 100000", room[1] <= 100_000);
    }

    /** Counts objects and arrays in room 0, their fields and elements in room 1; no object here is shared. */
    private static void count(Object object, long[] room) throws ReflectiveOperationException {
        room[0]++;
        if (object.getClass().isArray()) {
            room[1] += Array.getLength(object);
            for (int i = 0; object instanceof Object[] && i < Array.getLength(object); i++) {
                count(Array.get(object, i), room);
            }
            return;
        }
        for (Field field : object.getClass().getDeclaredFields()) {
            if (!Modifier.isStatic(field.getModifiers())) {
                room[1]++;
                field.setAccessible(true);
                if (!field.getType().isPrimitive()) {
                    count(field.get(object), room);
                }
            }
        }
    }

    private static void callsMakeNothing() {
        ModuleKem x = new ModuleKem();
        com.sun.management.ThreadMXBean threads =
                (com.sun.management.ThreadMXBean) ManagementFactory.getThreadMXBean();
        everyCall(x, 2);
        long before = threads.getCurrentThreadAllocatedBytes();
        everyCall(x, 0);
        everyCall(x, 1);
        everyCall(x, 2);
        long made = threads.getCurrentThreadAllocatedBytes() - before;
        // The look at the counter itself may cost a little; one polynomial alone would be over 1000 bytes.
        Checks.holds("the calls made " + made + " bytes of objects, at most 500", made <= 500);
    }

    private static void everyCall(ModuleKem x, int set) {
        x.feed(1, 2, 3, 4, 5);
        x.end(0, 20);
        x.resize(0, 64);
        x.kemKeys(set);
        x.resize(0, 32);
        x.kemWrap(set);
        x.kemOpen(set);
        x.alter(5, 0, 1);
        x.kemOpen(set);
        x.copy(5, 7);
        x.same(5, 7);
        x.length(7);
        x.word(7, 0);
    }
}
