import java.io.IOException;
import java.lang.reflect.Method;
import java.lang.reflect.Modifier;
import java.nio.file.Files;
import java.nio.file.Path;
import java.util.Set;
import java.util.TreeSet;
import java.util.regex.Matcher;
import java.util.regex.Pattern;

/** README.md tells how to use the class: its example answers as it says, and it names each call and each test. */
public final class ReadmeTest {
    private static final Check CHECK = new Check();
    private static final Path README = Path.of("README.md"), TESTS = Path.of("src/test/java");
    private static final Pattern TEXT = Pattern.compile("String text = \"([^\"]*)\";");
    private static final Pattern CALL = Pattern.compile("nib\\.(\\w+)\\(([^)]*)\\); +// (-?\\d+): ");
    private static final Pattern ROW_OF_CALL = Pattern.compile("^\\| `(\\w+)\\(", Pattern.MULTILINE);
    private static final Pattern ROW_OF_TEST = Pattern.compile("^\\| `(\\w+Test)` ", Pattern.MULTILINE);

    public static void main(String[] args) throws IOException, ReflectiveOperationException {
        String readme = Files.readString(README);
        example(readme);
        calls(readme);
        tests(readme);
        CHECK.end();
    }

    private static void example(String readme) throws ReflectiveOperationException {
        Matcher text = TEXT.matcher(readme);
        CHECK.due("the example has a text", text.find());
        BroadNib nib = new BroadNib();
        Check.write(nib, text.group(1));
        Matcher call = CALL.matcher(readme);
        int found = 0;
        while (call.find()) {
            String told = "nib." + call.group(1) + "(" + call.group(2) + ")";
            CHECK.due(told, answer(nib, call.group(1), call.group(2)), Long.parseLong(call.group(3)));
            found++;
        }
        CHECK.due("the example has calls", found >= 5);
    }

    private static long answer(BroadNib nib, String name, String told) throws ReflectiveOperationException {
        String[] numbers = told.isBlank() ? new String[0] : told.split(", ");
        Method method = method(name);
        Object[] given = new Object[numbers.length];
        for (int i = 0; i < given.length; i++) {
            Class<?> type = method.getParameterTypes()[i];
            if (type == boolean.class) {
                given[i] = Boolean.valueOf(numbers[i]);
            } else if (type == long.class) {
                given[i] = Long.valueOf(numbers[i]);
            } else {
                given[i] = Integer.valueOf(numbers[i]);
            }
        }
        return ((Number) method.invoke(nib, given)).longValue();
    }

    private static Method method(String name) {
        for (Method method : BroadNib.class.getDeclaredMethods()) {
            if (method.getName().equals(name) && Modifier.isPublic(method.getModifiers())) {
                return method;
            }
        }
        throw new IllegalArgumentException("no call: " + name);
    }

    private static Set<String> named(Pattern row, String readme) {
        Set<String> names = new TreeSet<>();
        Matcher matcher = row.matcher(readme);
        while (matcher.find()) {
            names.add(matcher.group(1));
        }
        return names;
    }

    private static void calls(String readme) {
        Set<String> due = new TreeSet<>();
        for (Method method : BroadNib.class.getDeclaredMethods()) {
            if (Modifier.isPublic(method.getModifiers())) {
                due.add(method.getName());
            }
        }
        Set<String> found = named(ROW_OF_CALL, readme);
        CHECK.due("the calls of the table are " + found, found.equals(due));
    }

    private static void tests(String readme) throws IOException {
        Set<String> due = new TreeSet<>();
        try (var files = Files.list(TESTS)) {
            files.map(file -> file.getFileName().toString()).filter(name -> name.endsWith("Test.java"))
                .forEach(name -> due.add(name.substring(0, name.length() - ".java".length())));
        }
        Set<String> found = named(ROW_OF_TEST, readme);
        CHECK.due("the tests of the table are " + found, found.equals(due));
    }
}
