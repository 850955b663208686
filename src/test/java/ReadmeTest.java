import java.io.IOException;
import java.lang.reflect.InvocationTargetException;
import java.lang.reflect.Method;
import java.lang.reflect.Modifier;
import java.nio.file.DirectoryStream;
import java.nio.file.Files;
import java.nio.file.Path;
import java.util.ArrayList;
import java.util.List;
import java.util.Set;
import java.util.TreeSet;
import java.util.regex.Matcher;
import java.util.regex.Pattern;

/** README.md, read from the directory that .ci/run runs in: what it says must be so. */
public final class ReadmeTest {
    private static final Check CHECK = new Check("ReadmeTest");
    private static final Pattern MAKING = Pattern.compile("ClerkRows rows = new ClerkRows\\((-?\\d+)\\);");
    private static final Pattern CALL = Pattern.compile("rows\\.(\\w+)\\(([-\\d, ]*)\\); +// (-?\\w+): .+");

    private ReadmeTest() {
    }

    public static void main(String[] args) throws IllegalAccessException {
        CHECK.runAll(ReadmeTest.class);
        CHECK.end();
    }

    static void theExampleAnswersAsItSays() throws ReflectiveOperationException, IOException {
        ClerkRows rows = null;
        Set<String> called = new TreeSet<>();
        for (String line : example()) {
            Matcher making = MAKING.matcher(line);
            Matcher call = CALL.matcher(line);
            if (making.matches()) {
                rows = new ClerkRows(Integer.parseInt(making.group(1)));
            } else if (rows != null && call.matches()) {
                called.add(call.group(1));
                CHECK.due(line, answer(rows, call.group(1), call.group(2)), number(call.group(3)));
            } else {
                CHECK.due("a line that this test can read: " + line, false);
            }
        }
        CHECK.due("the example uses every call, not only " + called, called.equals(calls()));
    }

    static void everyCallIsNamed() throws IOException {
        String readme = readme();
        for (String call : calls()) {
            CHECK.due(call + " has a row of the table", readme.contains("\n| `" + call + "("));
        }
    }

    static void everyRefusalIsNamedWithItsNumber() throws ReflectiveOperationException, IOException {
        String readme = readme();
        for (String refusal : List.of("UNKNOWN", "OUTSIDE", "STATE", "ROOM")) {
            CHECK.due(refusal, readme.contains("\n- `" + refusal + "` (" + number(refusal) + "): "));
        }
    }

    static void everyTestIsNamed() throws IOException {
        String readme = readme();
        int found = 0;
        try (DirectoryStream<Path> files = Files.newDirectoryStream(Path.of("src/test/java"), "*.java")) {
            for (Path file : files) {
                String name = file.getFileName().toString().replace(".java", "");
                CHECK.due(name + " is named", readme.contains("`" + name + "`"));
                found++;
            }
        }
        CHECK.due("some were found", found > 0);
    }

    static void theCommandCanBeRun() throws IOException {
        CHECK.due("the command is named", readme().contains("\n    .ci/run\n"));
        CHECK.due("it is there", Files.isExecutable(Path.of(".ci/run")));
    }

    private static String readme() throws IOException {
        return Files.readString(Path.of("README.md"));
    }

    private static List<String> example() throws IOException {
        List<String> lines = new ArrayList<>();
        boolean inside = false;
        for (String line : readme().split("\n")) {
            if (inside && line.equals("```")) {
                return lines;
            }
            if (inside) {
                lines.add(line);
            }
            inside = inside || line.equals("```java");
        }
        throw new IllegalStateException("README.md has no example that ends");
    }

    private static Set<String> calls() {
        Set<String> names = new TreeSet<>();
        for (Method method : ClerkRows.class.getDeclaredMethods()) {
            if (Modifier.isPublic(method.getModifiers())) {
                names.add(method.getName());
            }
        }
        return names;
    }

    private static long number(String written) throws ReflectiveOperationException {
        boolean isName = Character.isUpperCase(written.charAt(0));
        return isName ? ClerkRows.class.getField(written).getInt(null) : Long.parseLong(written);
    }

    private static long answer(ClerkRows rows, String name, String list)
        throws IllegalAccessException, InvocationTargetException {
        String[] given = list.isEmpty() ? new String[0] : list.split(", ");
        for (Method method : ClerkRows.class.getDeclaredMethods()) {
            if (method.getName().equals(name) && method.getParameterCount() == given.length) {
                return ((Number) method.invoke(rows, arguments(method, given))).longValue();
            }
        }
        throw new IllegalStateException("there is no call " + name + "(" + list + ")");
    }

    private static Object[] arguments(Method method, String[] given) {
        Object[] all = new Object[given.length];
        for (int i = 0; i < given.length; i++) {
            // Not by ?:, which would make a Long of both.
            if (method.getParameterTypes()[i] == long.class) {
                all[i] = Long.valueOf(given[i]);
            } else {
                all[i] = Integer.valueOf(given[i]);
            }
        }
        return all;
    }
}
