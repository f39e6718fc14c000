import java.io.IOException;
import java.lang.reflect.InvocationTargetException;
import java.lang.reflect.Method;
import java.lang.reflect.Modifier;
import java.nio.file.Files;
import java.nio.file.Path;
import java.util.Arrays;
import java.util.regex.Matcher;
import java.util.regex.Pattern;

/** README.md: the calls of its example answer what it tells, and it tells of every call. */
public final class ReadmeTest {
    private static final Pattern EXAMPLE = Pattern.compile("(?s)```java\n(.*?)```");
    private static final Pattern LOOP = Pattern.compile("for \\(char c : \"([^\"]+)\"");
    private static final Pattern ROW = Pattern.compile("plans\\.(\\w+)\\(([^)]*)\\); *// (true|false|-?[0-9]+)\\b.*");

    public static void main(String[] args) throws IOException {
        String readme = Files.readString(Path.of("README.md"));
        example(readme);
        everyCall(readme);
        Check.end("ReadmeTest");
    }

    private static void example(String readme) {
        Check.sentence("README.md says how to use the class");
        Matcher example = EXAMPLE.matcher(readme);
        Check.due(true, "there is an example", example::find);
        StairPlans plans = new StairPlans();
        for (String line : example.group(1).split("\n")) {
            Matcher loop = LOOP.matcher(line);
            if (loop.find()) {
                Check.tell(plans, loop.group(1));
            } else if (line.startsWith("plans.")) {
                row(plans, line);
            }
        }
    }

    private static void row(StairPlans plans, String line) {
        Matcher row = ROW.matcher(line);
        Check.due(true, "the answer stands behind " + line, row::matches);
        Check.due(row.group(3), row.group(1) + "(" + row.group(2) + ")",
                () -> call(plans, row.group(1), row.group(2)));
    }

    private static Object call(StairPlans plans, String name, String numbers) {
        Method method = Arrays.stream(StairPlans.class.getDeclaredMethods())
                .filter(one -> one.getName().equals(name)).findFirst().orElseThrow();
        String[] told = numbers.isEmpty() ? new String[0] : numbers.split(", *");
        Object[] arguments = new Object[told.length];
        for (int i = 0; i < told.length; i++) {
            boolean small = method.getParameterTypes()[i] == int.class;
            arguments[i] = small ? (Object) Integer.valueOf(told[i]) : (Object) Long.valueOf(told[i]);
        }
        try {
            return method.invoke(plans, arguments);
        } catch (InvocationTargetException e) {
            return "throws." + e.getCause().getClass().getSimpleName();
        } catch (IllegalAccessException e) {
            throw new IllegalStateException(e);
        }
    }

    private static void everyCall(String readme) {
        Check.sentence("README.md says how to use the class (every call)");
        for (Method method : StairPlans.class.getDeclaredMethods()) {
            if (Modifier.isPublic(method.getModifiers())) {
                Check.due(true, method.getName() + "() has a line",
                        () -> readme.contains("\n| `" + method.getName() + "("));
            }
        }
    }
}
