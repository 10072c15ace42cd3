import java.io.IOException;
import java.lang.reflect.InvocationTargetException;
import java.lang.reflect.Method;
import java.lang.reflect.Modifier;
import java.nio.file.Files;
import java.nio.file.Path;
import java.util.ArrayList;
import java.util.Arrays;
import java.util.List;
import java.util.Set;
import java.util.TreeSet;
import java.util.regex.Matcher;
import java.util.regex.Pattern;
import java.util.stream.Stream;

/** That what README.md says is so: its example, and the calls, lengths and tests that it names. */
public final class ReadmeTest {
    private static final String NEW_OBJECT = "ModuleKem kem = new ModuleKem();";
    private static final Pattern CALL = Pattern.compile("kem\\.(\\w+)\\(([-0-9, ]*)\\); +// ([-.\\w]+)(: .*)?");
    private static final Pattern CALL_ROW = Pattern.compile("\\| `(\\w+ \\w+\\([\\w, ]*\\))` \\|.*");
    private static final Pattern LENGTHS_ROW = Pattern.compile("\\| (\\d) \\| (\\d+) \\| (\\d+) \\| (\\d+) \\|");
    private static final Pattern TEST_NAME = Pattern.compile("`(\\w+Test)`");

    public static void main(String[] args) {
        Checks.run(ReadmeTest.class);
    }

    private static List<String> lines() throws IOException {
        return Files.readAllLines(Path.of("README.md"));
    }

    private static List<String> example() throws IOException {
        List<String> lines = lines();
        int start = lines.indexOf("```java") + 1;
        int length = lines.subList(start, lines.size()).indexOf("```");
        return lines.subList(start, start + length);
    }

    private static void exampleAnswersAsItSays() throws IOException {
        List<String> example = example();
        Checks.due("the first line of the example", () -> example.get(0), NEW_OBJECT);
        ModuleKem kem = new ModuleKem();
        for (String line : example.subList(1, example.size())) {
            Matcher call = CALL.matcher(line);
            Checks.holds(line + " is a call with its answer", call.matches());
            Checks.due(line, () -> invoke(kem, call.group(1), numbers(call.group(2))), call.group(3));
        }
    }

    private static void exampleHasEveryCall() throws IOException {
        Set<String> used = new TreeSet<>();
        for (String line : example()) {
            Matcher call = CALL.matcher(line);
            if (call.matches()) {
                used.add(call.group(1));
            }
        }
        Set<String> all = new TreeSet<>();
        for (Method method : face()) {
            all.add(method.getName());
        }
        Checks.due("the calls in the example", () -> used, all);
    }

    private static void callsAreThoseOfTheFace() throws IOException {
        Set<String> named = new TreeSet<>();
        for (String line : lines()) {
            Matcher row = CALL_ROW.matcher(line);
            if (row.matches()) {
                // Reflection does not know the names of parameters, so they are left out of both.
                named.add(row.group(1).replaceAll(" \\w+(?=[,)])", ""));
            }
        }
        Set<String> all = new TreeSet<>();
        for (Method method : face()) {
            List<String> types = new ArrayList<>();
            for (Class<?> type : method.getParameterTypes()) {
                types.add(type.getName());
            }
            all.add(method.getReturnType() + " " + method.getName() + "(" + String.join(", ", types) + ")");
        }
        Checks.due("the calls in the table", () -> named, all);
    }

    private static void lengthsAreThoseOfTheSets() throws IOException {
        int seen = 0;
        for (String line : lines()) {
            Matcher row = LENGTHS_ROW.matcher(line);
            if (row.matches()) {
                int set = Integer.parseInt(row.group(1));
                ModuleKem x = new ModuleKem();
                x.resize(0, 64);
                Checks.due("SECRET of set " + set, () -> x.kemKeys(set), row.group(3));
                Checks.due("PUBLIC of set " + set, () -> x.length(1), row.group(2));
                x.resize(0, 32);
                Checks.due("PACKET of set " + set, () -> x.kemWrap(set), row.group(4));
                seen += 1 << 4 * set;
            }
        }
        Checks.holds("each set has one row of lengths", seen == 0x111);
    }

    private static void testsAreThoseThatAreThere() throws IOException {
        Set<String> named = new TreeSet<>();
        Matcher name = TEST_NAME.matcher(String.join("\n", lines()));
        while (name.find()) {
            named.add(name.group(1));
        }
        Set<String> there = new TreeSet<>();
        try (Stream<Path> files = Files.list(Path.of("src/test/java"))) {
            files.map(file -> file.getFileName().toString()).filter(file -> file.endsWith("Test.java"))
                    .forEach(file -> there.add(file.substring(0, file.length() - ".java".length())));
        }
        Checks.due("the tests in the table", () -> named, there);
    }

    private static List<Method> face() {
        List<Method> methods = new ArrayList<>();
        for (Method method : ModuleKem.class.getDeclaredMethods()) {
            if (Modifier.isPublic(method.getModifiers())) {
                methods.add(method);
            }
        }
        return methods;
    }

    private static Object[] numbers(String text) {
        return Arrays.stream(text.split(", ")).map(Integer::valueOf).toArray();
    }

    /** Throws what the call throws, so that Checks sees that and not reflection's own exception. */
    private static Object invoke(ModuleKem kem, String name, Object[] numbers) {
        for (Method method : face()) {
            if (method.getName().equals(name)) {
                try {
                    return method.invoke(kem, numbers);
                } catch (InvocationTargetException e) {
                    throw (RuntimeException) e.getCause();
                } catch (IllegalAccessException e) {
                    throw new IllegalStateException(e);
                }
            }
        }
        throw new AssertionError("there is no call " + name);
    }
}
