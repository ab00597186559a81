import java.io.IOException;
import java.nio.file.Files;
import java.nio.file.Path;
import java.util.ArrayList;
import java.util.LinkedHashMap;
import java.util.LinkedHashSet;
import java.util.List;
import java.util.Map;
import java.util.Set;

/** The sentences of the document that have a test, each held against the document itself. */
final class Sentences {
    private static final Path DOCUMENT = Path.of("../shared/DOC.md");

    private final Map<String, List<String>> document = new LinkedHashMap<>();
    private final Set<String> tested = new LinkedHashSet<>();

    Sentences() throws IOException {
        String heading = "";
        for (String line : Files.readAllLines(DOCUMENT)) {
            if (line.startsWith("## ")) {
                heading = line.substring(3).split(":")[0];
                document.put(heading, new ArrayList<>());
            } else if (!heading.isEmpty()) {
                document.get(heading).add(line);
            }
        }
    }

    /** Notes that the sentence under this heading is tested now; answers what its checks are called by. */
    String under(String heading, String sentence) {
        String said = heading + ": " + sentence;
        if (tested.add(said)) {
            String text = String.join("\n", document.getOrDefault(heading, List.of()));
            Checks.due("the document says, " + said, true, () -> text.contains(sentence));
        }
        return said + ", ";
    }

    /** No line of any promise that starts so may be left without a test. */
    void demandAllThatStart(String start) {
        for (Map.Entry<String, List<String>> part : document.entrySet()) {
            for (String line : part.getValue()) {
                if (part.getKey().startsWith("Promise") && line.startsWith(start)) {
                    String said = part.getKey() + ": " + line;
                    Checks.due("a test of the sentence, " + said, true, () -> tested.contains(said));
                }
            }
        }
    }

    void finish() {
        System.out.println(tested.size() + " sentences");
        Checks.finish();
    }
}
