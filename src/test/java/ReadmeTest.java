import java.io.IOException;
import java.lang.reflect.InvocationTargetException;
import java.lang.reflect.Method;
import java.lang.reflect.Modifier;
import java.nio.file.Files;
import java.nio.file.Path;
import java.util.HashMap;
import java.util.Map;
import java.util.regex.Matcher;
import java.util.regex.Pattern;

/** The example of README.md answers as README.md says, and its table has every call. */
public final class ReadmeTest extends Testing {
    private static final String MADE = "Ahoarch matcher = new Ahoarch();";
    /** A call of the example: what its answer is named, if anything, its name, what it is asked, what is due. */
    private static final Pattern CALL =
        Pattern.compile("(?:int (\\w+) = )?matcher\\.(\\w+)\\((.*)\\); +// ('.'|-?\\d+|throws \\w+)(?:,.*)?");

    private static final Ahoarch X = new Ahoarch();
    private static final Map<String, Integer> NAMED = new HashMap<>();

    public static void main(String[] args) throws IOException {
        String readme = Files.readString(Path.of("README.md"));
        exampleAnswersSo(readme);
        tableHasEveryCall(readme);
        finish("ReadmeTest");
    }

    private static void exampleAnswersSo(String readme) {
        String example = between(readme, "```java\n", "```");
        about("README.md");
        due("true", () -> example.contains("matcher.enter()"));
        for (String line : example.split("\n")) {
            about("README.md, " + line);
            Matcher call = CALL.matcher(line);
            if (call.matches()) {
                run(call);
            } else {
                due("true", () -> line.isEmpty() || line.equals(MADE));
            }
        }
    }

    private static void run(Matcher call) {
        String want = call.group(4).replace("'", "").replace("throws ", "throws.");
        String got = answer(() -> ask(call.group(2), call.group(3).split(", ")));
        due(want, () -> got);
        if (call.group(1) != null) {
            NAMED.put(call.group(1), Integer.valueOf(got));
        }
    }

    private static Object ask(String name, String[] words) {
        Object[] asked = words[0].isEmpty() ? new Object[0] : new Object[words.length];
        for (int index = 0; index < asked.length; index++) {
            asked[index] = valueOf(words[index]);
        }
        try {
            return method(name).invoke(X, asked);
        } catch (InvocationTargetException thrown) {
            throw (RuntimeException) thrown.getCause();
        } catch (IllegalAccessException hidden) {
            throw new UnsupportedOperationException(hidden);
        }
    }

    private static Object valueOf(String word) {
        if (word.startsWith("'")) {
            return word.charAt(1);
        }
        return NAMED.containsKey(word) ? NAMED.get(word) : Integer.valueOf(word);
    }

    private static Method method(String name) {
        for (Method each : Ahoarch.class.getDeclaredMethods()) {
            if (each.getName().equals(name)) {
                return each;
            }
        }
        throw new UnsupportedOperationException(name);
    }

    private static void tableHasEveryCall(String readme) {
        String table = between(readme, "### The calls\n", "\n###");
        for (Method each : Ahoarch.class.getDeclaredMethods()) {
            if (Modifier.isPublic(each.getModifiers())) {
                about("README.md, The calls, " + each.getName());
                int asked = each.getParameterCount();
                due(asked, () -> askedInTable(table, each.getName()));
            }
        }
    }

    /** Of how many words the table's call of this name is asked; -1 if it has none. */
    private static int askedInTable(String table, String name) {
        Matcher found = Pattern.compile("`" + name + "\\((.*?)\\)`").matcher(table);
        if (!found.find()) {
            return -1;
        }
        return found.group(1).isEmpty() ? 0 : found.group(1).split(", ").length;
    }

    private static String between(String text, String first, String last) {
        int from = text.indexOf(first);
        int end = from < 0 ? -1 : text.indexOf(last, from + first.length());
        return end < 0 ? "" : text.substring(from + first.length(), end);
    }
}
