import java.io.IOException;
import java.nio.file.Files;
import java.nio.file.Path;
import java.util.ArrayList;
import java.util.LinkedHashMap;
import java.util.List;
import java.util.Map;

/** The sentences and lines of the document, part by part. */
final class Document {
    private static final String HEADING = "## ";
    private static final String SENTENCE_END = "(?<=[.)])\\s+(?=[A-Z(])";

    private final Map<String, List<String>> parts = new LinkedHashMap<>();

    Document(Path path) throws IOException {
        List<String> part = new ArrayList<>();
        boolean isCode = false;
        for (String line : Files.readAllLines(path)) {
            if (line.startsWith("```")) {
                isCode = !isCode;
            } else if (line.startsWith(HEADING)) {
                part = new ArrayList<>();
                parts.put(line.substring(HEADING.length()).replaceFirst(":.*", ""), part);
            } else if (!isCode) {
                part.addAll(sentencesOf(line));
            }
        }
    }

    /** The line's sentences, without its dash, the face of its call and a leading word such as "Copies.". */
    private static List<String> sentencesOf(String line) {
        String plain = line.replaceFirst("^- ", "").replaceFirst("^`[^`]*\\([^`]*`: ", "");
        List<String> sentences = new ArrayList<>();
        for (String sentence : plain.split(SENTENCE_END)) {
            boolean isLeadingWord = sentence.endsWith(".") && sentence.indexOf(' ') < 0;
            if (!sentence.isBlank() && !isLeadingWord) {
                sentences.add(sentence);
            }
        }
        return sentences;
    }

    boolean says(String part, String words) {
        for (String sentence : sentencesIn(part)) {
            if (sentence.contains(words)) {
                return true;
            }
        }
        return false;
    }

    List<String> sentencesIn(String part) {
        return parts.getOrDefault(part, List.of());
    }

    /** The parts that say what an object does. */
    List<String> promisingParts() {
        List<String> names = new ArrayList<>();
        for (String name : parts.keySet()) {
            if (name.equals("Terms") || name.startsWith("Promise ")) {
                names.add(name);
            }
        }
        return names;
    }
}
