import java.io.IOException;
import java.nio.file.Files;
import java.nio.file.Path;
import java.util.Arrays;
import java.util.Map;
import java.util.TreeMap;

/** The document's parts, and which of their words a test has quoted. */
final class Document {
    private static final String COVERED = "\u0000";

    private final Map<String, String> texts = new TreeMap<>();
    private final Map<String, boolean[]> quoted = new TreeMap<>();

    Document(Path file) throws IOException {
        String part = "";
        for (String line : Files.readAllLines(file)) {
            if (line.startsWith("## Promise ")) {
                part = line.substring(3, line.indexOf(':'));
            } else if (line.startsWith("## ")) {
                part = "";
            } else if (line.matches("[A-Z ]+")) {
                part = line;
            } else if (!part.isEmpty() && !line.startsWith("Ahead of the calls ")) {
                texts.merge(part, line.strip(), (before, next) -> (before + " " + next).strip());
            }
        }
        for (Map.Entry<String, String> entry : texts.entrySet()) {
            // The head of a method is looked at by FaceTest.
            entry.setValue(entry.getValue().replaceFirst("^`[^`]*\\)`: ", ""));
            quoted.put(entry.getKey(), new boolean[entry.getValue().length()]);
        }
    }

    int parts() {
        return texts.size();
    }

    /** Marks words as quoted; tells whether the part has them. */
    boolean quote(String part, String words) {
        int from = texts.containsKey(part) ? texts.get(part).indexOf(words) : -1;
        if (from < 0) {
            return false;
        }
        Arrays.fill(quoted.get(part), from, from + words.length(), true);
        return true;
    }

    /** The words of all parts that no test quotes. */
    String neverQuoted() {
        StringBuilder left = new StringBuilder();
        for (Map.Entry<String, String> entry : texts.entrySet()) {
            StringBuilder rest = new StringBuilder();
            for (int i = 0; i < entry.getValue().length(); i++) {
                rest.append(quoted.get(entry.getKey())[i] ? COVERED : entry.getValue().charAt(i));
            }
            for (String words : rest.toString().split(COVERED)) {
                if (words.matches(".*\\w.*")) {
                    left.append("\n  ").append(entry.getKey()).append(": ").append(words);
                }
            }
        }
        return left.toString();
    }
}
