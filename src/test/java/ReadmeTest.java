import java.io.IOException;
import java.lang.reflect.InvocationTargetException;
import java.lang.reflect.Method;
import java.lang.reflect.Modifier;
import java.nio.file.Files;
import java.nio.file.Path;
import java.util.Set;
import java.util.TreeSet;
import java.util.regex.Matcher;
import java.util.regex.Pattern;

/** Runs the calls of README.md's examples and looks at what it says they answer; it is run from the project's folder. */
public final class ReadmeTest {
    private static final Check check = new Check("ReadmeTest");
    private static final Pattern TYPES = Pattern.compile("type\\(log, \"(.*)\"\\);");
    private static final Pattern CALLS = Pattern.compile("log\\.(\\w+)\\((.*)\\); +// (.*)");
    private static final Pattern LINES = Pattern.compile("Line 0 is the text `(.*?)` and line 1 is `(.*?)`");
    private static final String NEW = "EventLog log = new EventLog();";

    private static EventLog log;
    private static final Set<String> shown = new TreeSet<>(Set.of("type"));

    public static void main(String[] args) throws IOException, IllegalAccessException {
        String page = Files.readString(Path.of("README.md"));
        Matcher example = Pattern.compile("(?s)```java\n(.*?)```").matcher(page);
        while (example.find()) {
            if (!example.group(1).startsWith("static ")) {
                run(example.group(1));
            }
            if (example.group(1).contains("log.letter(")) {
                linesAreAsTold(page);
            }
        }
        showsEveryCall();
        namesEveryTest(page);
        check.end();
    }

    /** What the page says of the two lines in words, behind the example that reads them. */
    private static void linesAreAsTold(String page) {
        Matcher told = LINES.matcher(page);
        check.same("README.md tells the lines", told.find(), true);
        check.same("line 0", Check.line(log, 0), told.group(1));
        check.same("line 1", Check.line(log, 1), told.group(2));
    }

    private static void showsEveryCall() {
        for (Method m : EventLog.class.getDeclaredMethods()) {
            if (Modifier.isPublic(m.getModifiers())) {
                check.same("README.md shows " + m.getName(), shown.contains(m.getName()), true);
            }
        }
    }

    private static void run(String example) throws IllegalAccessException {
        for (String line : example.split("\n")) {
            Matcher types = TYPES.matcher(line);
            Matcher call = CALLS.matcher(line);
            if (line.equals(NEW)) {
                log = new EventLog();
            } else if (types.matches()) {
                Check.type(log, types.group(1));
            } else if (call.matches()) {
                check.same(line, answer(call.group(1), call.group(2)), call.group(3));
            } else {
                check.same("a line that is no call with its answer", line, "");
            }
        }
    }

    private static String answer(String name, String arguments) throws IllegalAccessException {
        shown.add(name);
        for (Method m : EventLog.class.getDeclaredMethods()) {
            if (m.getName().equals(name)) {
                try {
                    Object answer = m.invoke(log, values(m, arguments));
                    return m.getReturnType() == void.class ? "nothing" : String.valueOf(answer);
                } catch (InvocationTargetException e) {
                    return "throws " + e.getCause().getClass().getSimpleName();
                }
            }
        }
        return "no such call";
    }

    private static Object[] values(Method m, String arguments) {
        Class<?>[] types = m.getParameterTypes();
        Object[] values = new Object[types.length];
        String[] told = arguments.split(", ");
        for (int k = 0; k < types.length; k++) {
            values[k] = types[k] == long.class ? (Object) Long.valueOf(told[k].replace("L", "")) : (Object) Integer.valueOf(told[k]);
        }
        return values;
    }

    private static void namesEveryTest(String page) throws IOException {
        try (var files = Files.list(Path.of("src/test/java"))) {
            files.map(f -> f.getFileName().toString()).filter(f -> f.endsWith("Test.java")).forEach(f ->
                check.same("README.md names " + f, page.contains(f.replace(".java", "")), true));
        }
    }
}
