import java.io.IOException;
import java.nio.file.Files;
import java.nio.file.Path;
import java.util.ArrayList;
import java.util.BitSet;
import java.util.LinkedHashMap;
import java.util.List;
import java.util.Map;

/** The document's words by their headings, and which of them the tests quote. */
final class Document {
    /** These name nothing that a test of calls could break, or another test looks at them. */
    private static final List<String> NOT_QUOTED = List.of("The public face", "Not promised");
    private static final String SUMMARY = "Sequences of elements of finite groups and their parts";

    private final Map<String, String> words = new LinkedHashMap<>();
    private final Map<String, BitSet> quoted = new LinkedHashMap<>();

    private Document(List<String> lines) {
        String heading = "";
        for (String line : lines) {
            if (line.startsWith("#")) {
                heading = line.replaceFirst("#+ *", "");
            } else if (line.matches("[A-Z][A-Z ]+")) {
                heading = line;
            } else if (!line.startsWith(SUMMARY)) {
                words.merge(heading, oneLine(line), (one, other) -> one + " " + other);
            }
        }
        for (String each : words.keySet()) {
            quoted.put(each, new BitSet());
        }
    }

    /** The signature in front of a promise's words is looked at by LanguageTest. */
    private static String oneLine(String line) {
        return line.replaceFirst("^`[^`]*\\(.*?\\)[^`]*`: ", "").trim();
    }

    static Document read(Path path) throws IOException {
        return new Document(Files.readAllLines(path));
    }

    /** Marks the first place of these words under the heading that is not yet quoted. */
    boolean quote(String heading, String sentence) {
        String text = words.getOrDefault(heading, "");
        int start = text.indexOf(sentence);
        while (start >= 0 && quoted.get(heading).get(start)) {
            start = text.indexOf(sentence, start + 1);
        }
        if (start < 0) {
            return false;
        }
        quoted.get(heading).set(start, start + sentence.length());
        return true;
    }

    /** What has letters or digits and is quoted by no test. */
    List<String> notQuoted() {
        List<String> found = new ArrayList<>();
        for (Map.Entry<String, String> entry : words.entrySet()) {
            if (!NOT_QUOTED.contains(entry.getKey())) {
                StringBuilder rest = new StringBuilder();
                for (int k = 0; k < entry.getValue().length(); k++) {
                    rest.append(quoted.get(entry.getKey()).get(k) ? '\n' : entry.getValue().charAt(k));
                }
                for (String piece : rest.toString().split("\n+")) {
                    if (piece.matches(".*[A-Za-z0-9].*")) {
                        found.add("[" + entry.getKey() + "] " + piece.trim());
                    }
                }
            }
        }
        return found;
    }
}
