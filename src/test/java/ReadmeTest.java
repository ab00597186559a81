import java.io.IOException;
import java.lang.reflect.Method;
import java.lang.reflect.Modifier;
import java.nio.file.Files;
import java.nio.file.Path;
import java.util.List;
import java.util.regex.Pattern;

/** README.md tells the truth: its example answers what it says there, and it names every method and every test. */
public final class ReadmeTest {
    /** A line of the example and what it answers. */
    private static final class Line {
        final String code;
        final Checks.Call call;

        Line(String code, Checks.Call call) {
            this.code = code;
            this.call = call;
        }
    }

    public static void main(String[] args) throws IOException {
        List<String> readme = Files.readAllLines(Path.of("README.md"));
        checkExample(example(readme));
        checkMethods(String.join("\n", readme));
        checkNames(readme, Path.of("src/test/java"));
        checkNames(readme, Path.of("src/test/support"));
        Checks.finish();
    }

    /** The lines between the first ```java and its ```. */
    private static List<String> example(List<String> readme) {
        int start = readme.indexOf("```java") + 1;
        List<String> rest = readme.subList(start, readme.size());
        return rest.subList(0, Math.max(0, rest.indexOf("```")));
    }

    private static void checkExample(List<String> example) {
        QueueMiddles queues = new QueueMiddles();
        List<Line> lines = List.of(
                new Line("queues.begin(0, 100);", () -> queues.begin(0, 100)),
                new Line("queues.showRow(0, 10, 10, 40);", () -> queues.showRow(0, 10, 10, 40)),
                new Line("queues.show(0, 55);", () -> queues.show(0, 55)),
                new Line("queues.thinOut(0);", () -> queues.thinOut(0)),
                new Line("int near = queues.ask(0, 500);", () -> queues.ask(0, 500)),
                new Line("int off = queues.off(0, 500);", () -> queues.off(0, 500)),
                new Line("int middle = queues.middle(0);", () -> queues.middle(0)),
                new Line("queues.pour(0, 1);", () -> queues.pour(0, 1)));
        Checks.due("lines of the example", lines.size() + 1, example::size);
        for (int i = 0; i < Math.min(lines.size(), example.size() - 1); i++) {
            String line = example.get(i + 1);
            Line due = lines.get(i);
            Checks.due("example: " + line, due.code, () -> line.split("//")[0].strip());
            Checks.due("example: " + line, true, () -> line.matches(".*// " + Checks.outcome(due.call) + "\\b.*"));
        }
    }

    private static void checkMethods(String readme) {
        for (Method method : QueueMiddles.class.getDeclaredMethods()) {
            if (Modifier.isPublic(method.getModifiers())) {
                String others = ", \\w+".repeat(method.getParameterCount() - 1);
                Pattern call = Pattern.compile("`" + method.getName() + "\\(\\w+" + others + "\\)`");
                Checks.due("README.md tells " + call, true, () -> call.matcher(readme).find());
            }
        }
    }

    private static void checkNames(List<String> readme, Path folder) throws IOException {
        String text = String.join("\n", readme);
        try (var files = Files.list(folder)) {
            files.sorted().forEach(file -> {
                String name = file.getFileName().toString().replace(".java", "");
                Checks.due("README.md names " + name, true, () -> text.contains("`" + name + "`"));
            });
        }
    }
}
