import java.io.IOException;
import java.lang.reflect.InvocationTargetException;
import java.lang.reflect.Method;
import java.nio.file.Files;
import java.nio.file.Path;
import java.util.ArrayList;
import java.util.HashMap;
import java.util.List;
import java.util.Map;
import java.util.regex.Matcher;
import java.util.regex.Pattern;

/** What README.md tells of the calls is what the document says, and its examples are what the class answers. */
public final class ReadmeTest {
    private static final Path README = Path.of("README.md");
    private static final Path DOCUMENT = Path.of("../shared/DOC.md");

    private static final Pattern NEW_ROUTE = Pattern.compile("SelectoRoute (\\w+) = new SelectoRoute\\(\\);");
    private static final Pattern CALL = Pattern.compile("(\\w+)\\.(\\w+)\\((.*?)\\); +// (throws \\w+|[^,]+)(,.*)?");

    public static void main(String[] args) throws IOException {
        String readme = Files.readString(README);
        everyPromiseHasItsRow(readme, Files.readString(DOCUMENT));
        everyExampleIsAnswered(readme);
        everyTestIsListed(readme);
        Checks.finish();
    }

    private static void everyPromiseHasItsRow(String readme, String document) {
        List<String> rows = List.of(readme.split("\n"));
        int due = 0;
        for (String promise : document.substring(0, document.indexOf("## Not promised")).split("## Promise ")) {
            String text = promise.replace('\n', ' ');
            Matcher head = Pattern.compile("\\d+: \\w+  `([^`]*?\\))( throws [^`]*)?`: .*").matcher(text);
            if (head.matches()) {
                due++;
                String row = rowOf(head.group(1), promise);
                Checks.holds("README has the row " + row, rows.contains(row));
            }
        }
        Checks.equal("promises with a row", due, 37);
        Checks.equal("rows", rows.stream().filter(row -> row.matches("\\| `\\w+ \\w+\\(.*")).count(), due);
    }

    /** The row of a table for a promise: the call, what it does, what it answers, what it throws. */
    private static String rowOf(String call, String promise) {
        String does = null;
        String answers = null;
        List<String> numbers = new ArrayList<>();
        List<String> thrown = new ArrayList<>();
        for (String part : promise.strip().split("\n\n|\n(?=- )")) {
            String text = part.replace('\n', ' ');
            if (text.startsWith("`")) {
                does = plain(text.substring(text.indexOf("`: ") + 3));
            } else if (text.startsWith("- ") && !text.matches("- `\\w+`: the (box|slot|disc)")) {
                numbers.add(text.substring(2));
            } else if (text.startsWith("Returns ")) {
                answers = plain(text.substring("Returns ".length()));
            } else if (text.startsWith("Throws ")) {
                thrown.add(text.substring("Throws ".length()));
            }
        }
        String doesWith = numbers.isEmpty() ? does : does + "; " + String.join(", ", numbers);
        String throwing = thrown.isEmpty() ? "nothing" : String.join("; ", thrown);
        return "| `" + call + "` | " + doesWith + " | " + answers + " | " + throwing + " |";
    }

    private static String plain(String sentence) {
        return sentence.endsWith(".") ? sentence.substring(0, sentence.length() - 1) : sentence;
    }

    private static void everyExampleIsAnswered(String readme) {
        Map<String, SelectoRoute> routes = new HashMap<>();
        Map<String, Integer> called = new HashMap<>();
        for (String line : linesOfExamples(readme)) {
            Matcher made = NEW_ROUTE.matcher(line);
            Matcher call = CALL.matcher(line);
            if (made.matches()) {
                routes.put(made.group(1), new SelectoRoute());
            } else if (call.matches() && routes.containsKey(call.group(1))) {
                String got = answerOf(routes.get(call.group(1)), call.group(2), call.group(3));
                Checks.holds(line + " answered " + got, got.equals(call.group(4)));
                called.merge(call.group(2), 1, Integer::sum);
            } else {
                Checks.holds("a line of an example: " + line, false);
            }
        }
        Checks.equal("methods with an example", called.size(), 37);
    }

    private static List<String> linesOfExamples(String readme) {
        List<String> lines = new ArrayList<>();
        for (String block : readme.split("```java\n")) {
            int end = block.indexOf("```");
            if (end >= 0) {
                lines.addAll(List.of(block.substring(0, end).split("\n")));
            }
        }
        return lines;
    }

    private static String answerOf(SelectoRoute route, String name, String arguments) {
        try {
            for (Method method : SelectoRoute.class.getDeclaredMethods()) {
                if (method.getName().equals(name)) {
                    Object answer = method.invoke(route, valuesOf(arguments));
                    return answer instanceof Character ? "'" + answer + "'" : String.valueOf(answer);
                }
            }
            return "no such method";
        } catch (InvocationTargetException e) {
            return "throws " + e.getCause().getClass().getSimpleName();
        } catch (IllegalAccessException | IllegalArgumentException e) {
            return "no such call";
        }
    }

    private static Object[] valuesOf(String arguments) {
        List<Object> values = new ArrayList<>();
        for (String argument : arguments.isEmpty() ? new String[0] : arguments.split(", ")) {
            if (argument.startsWith("'")) {
                values.add(argument.charAt(1));
            } else {
                values.add(Integer.parseInt(argument));
            }
        }
        return values.toArray();
    }

    private static void everyTestIsListed(String readme) throws IOException {
        try (var files = Files.newDirectoryStream(Path.of("src/test/java"), "*Test.java")) {
            for (Path file : files) {
                String name = file.getFileName().toString().replace(".java", "");
                Checks.holds("README lists " + name, readme.contains("| `" + name + "` | "));
            }
        }
    }
}
