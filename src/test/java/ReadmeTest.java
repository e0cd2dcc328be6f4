import java.io.IOException;
import java.lang.reflect.InvocationTargetException;
import java.lang.reflect.Method;
import java.nio.file.Files;
import java.nio.file.Path;
import java.util.TreeSet;
import java.util.regex.Matcher;
import java.util.regex.Pattern;

/** Each call of the example in README.md answers what is written behind it, and the text names every call. */
public final class ReadmeTest {
    private static final Pattern LINE =
            Pattern.compile("hall\\.(\\w+)\\(([^)]*)\\); +// (-?\\d+|throws \\w+)(:.*)?");
    private static final String FIRST_LINE = "SkateSheet hall = new SkateSheet();";

    private ReadmeTest() {
    }

    public static void main(String[] args) throws IOException, IllegalAccessException {
        String text = Files.readString(Path.of("README.md"));
        theExampleHolds(text);
        everyCallIsNamed(text);
        Check.end();
    }

    private static void theExampleHolds(String text) throws IllegalAccessException {
        int from = text.indexOf("```java\n") + "```java\n".length();
        String[] lines = text.substring(from, text.indexOf("```", from)).split("\n");
        Check.due("the first line of the example", lines[0], FIRST_LINE);
        Check.due("the example has calls", lines.length > 1, true);
        SkateSheet hall = new SkateSheet();
        for (int i = 1; i < lines.length; i++) {
            Matcher parts = LINE.matcher(lines[i]);
            if (parts.matches()) {
                Check.due(lines[i], answer(hall, parts.group(1), parts.group(2)), parts.group(3));
            } else {
                Check.complain("no call with its answer: " + lines[i]);
            }
        }
    }

    private static String answer(SkateSheet hall, String call, String told) throws IllegalAccessException {
        String[] words = told.isEmpty() ? new String[0] : told.split(", ");
        Object[] values = new Object[words.length];
        for (int i = 0; i < words.length; i++) {
            values[i] = words[i].startsWith("0b") ? Integer.valueOf(words[i].substring(2), 2)
                    : Integer.valueOf(words[i]);
        }
        try {
            return String.valueOf(methodNamed(call).invoke(hall, values));
        } catch (InvocationTargetException e) {
            return "throws " + e.getCause().getClass().getSimpleName();
        }
    }

    private static Method methodNamed(String call) {
        for (Method method : SkateSheet.class.getMethods()) {
            if (method.getName().equals(call) && method.getDeclaringClass() == SkateSheet.class) {
                return method;
            }
        }
        throw new AssertionError("no call " + call);
    }

    private static void everyCallIsNamed(String text) {
        TreeSet<String> missing = new TreeSet<>();
        for (Method method : SkateSheet.class.getMethods()) {
            if (method.getDeclaringClass() == SkateSheet.class && !text.contains("`" + method.getName() + "`")) {
                missing.add(method.getName());
            }
        }
        Check.due("calls that README.md does not name", missing.toString(), "[]");
    }
}
