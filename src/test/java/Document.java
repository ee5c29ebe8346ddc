import java.io.IOException;
import java.io.UncheckedIOException;
import java.nio.file.Files;
import java.nio.file.Path;
import java.util.ArrayList;
import java.util.LinkedHashMap;
import java.util.List;
import java.util.Map;

/** The document itself: its sections, and the calls of its public face in the order of Step. */
final class Document {
    private static final Path PLACE = Path.of("../shared/DOC.md");
    private static final String FACE = "The public face";
    private static final List<String> CALLS = calls();

    private Document() {
    }

    /** The text of each section, by the section's name: "Promise 7" for "## Promise 7: commit". */
    static Map<String, String> sections() {
        Map<String, String> sections = new LinkedHashMap<>();
        String name = "";
        for (String line : lines()) {
            if (line.startsWith("#")) {
                name = line.replaceFirst("^#+ ", "").replaceFirst(":.*", "");
                sections.put(name, "");
            } else if (!line.startsWith("```")) {
                sections.merge(name, line + "\n", String::concat);
            }
        }
        return sections;
    }

    private static List<String> lines() {
        try {
            return Files.readAllLines(PLACE);
        } catch (IOException e) {
            throw new UncheckedIOException(e);
        }
    }

    private static List<String> calls() {
        List<String> calls = new ArrayList<>();
        for (String line : sections().get(FACE).split("\n")) {
            if (line.matches(" +public .*;") && !line.contains(" LsmStore(")) {
                calls.add(line.strip());
            }
        }
        return calls;
    }

    /** A call's line in the public face, without its end: "public void begin() throws IllegalStateException". */
    static String lineOf(int kind) {
        return CALLS.get(kind).replace(";", "");
    }

    /** A call's line, as Java tells of a method: types alone, and whole names of exceptions. */
    static String methodOf(int kind) {
        return lineOf(kind).replaceAll(" (w|n|fresh|s|behind|value|at|when|k|b|what)\\b(?=[,)])", "")
            .replaceAll(", (?=int|boolean)", ",")
            .replaceAll(", (?=[IAj])", ",")
            .replaceAll("([ ,])(?=[IA][a-zA-Z]*Exception)", "$1java.lang.")
            .replaceFirst("(\\w+)\\(", "LsmStore.$1(");
    }

    static boolean mayThrow(int kind, String exception) {
        return lineOf(kind).matches(".*\\b" + exception + "\\b.*");
    }

    static int countOfCalls() {
        return CALLS.size();
    }
}
