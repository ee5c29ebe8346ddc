import java.io.IOException;
import java.nio.file.Files;
import java.nio.file.Path;
import java.util.ArrayList;
import java.util.List;
import java.util.Map;

/** Run behind all tests, on the sentences that they noted: each stands in the document, and none of it is left out. */
public final class Sentences {
    /* What is not promised cannot be broken. */
    private static final String NOT_PROMISED = "Not promised";

    private Sentences() {
    }

    public static void main(String[] args) throws IOException {
        List<String> noted = Files.readAllLines(Path.of(args[0]));
        Map<String, String> sections = Document.sections();
        for (String sentence : noted) {
            String section = sectionOf(sentence);
            boolean there = sections.getOrDefault(section, "").contains(wordsOf(sentence));
            Due.same(sentence, there ? "in the document" : "not there", "in the document");
        }
        for (String section : sections.keySet()) {
            if (!section.equals(NOT_PROMISED)) {
                String left = withoutTested(sections.get(section), wordsIn(section, noted));
                Due.same(section + ", words without a test", left, "");
            }
        }
        Due.finish("Sentences");
    }

    private static String sectionOf(String sentence) {
        return sentence.substring(0, sentence.indexOf('\t'));
    }

    private static String wordsOf(String sentence) {
        return sentence.substring(sentence.indexOf('\t') + 1);
    }

    private static List<String> wordsIn(String section, List<String> noted) {
        List<String> words = new ArrayList<>();
        for (String sentence : noted) {
            if (sectionOf(sentence).equals(section)) {
                words.add(wordsOf(sentence));
            }
        }
        return words;
    }

    /** The words that no tested part has; what stands between two parts may be marks and an "and". */
    private static String withoutTested(String text, List<String> tested) {
        boolean[] has = new boolean[text.length()];
        for (String words : tested) {
            for (int at = text.indexOf(words); at >= 0; at = text.indexOf(words, at + 1)) {
                for (int i = at; i < at + words.length(); i++) {
                    has[i] = true;
                }
            }
        }
        StringBuilder left = new StringBuilder();
        for (int i = 0; i < text.length(); i++) {
            left.append(has[i] ? ' ' : text.charAt(i));
        }
        return left.toString().replaceAll("[^\\p{Alnum}]+", " ").replaceAll("\\band\\b", "").strip();
    }
}
