import java.io.IOException;
import java.nio.file.Files;
import java.nio.file.Path;
import java.util.ArrayList;
import java.util.LinkedHashMap;
import java.util.List;
import java.util.Map;

/** The text of ../shared/DOC.md under its headings, and how much of it has been quoted. */
final class Document {
    private final Map<String, String> texts = new LinkedHashMap<>();
    private final Map<String, boolean[]> quoted = new LinkedHashMap<>();

    static Document read(Path file) throws IOException {
        Document document = new Document();
        String heading = "";
        StringBuilder text = new StringBuilder();
        for (String line : Files.readAllLines(file)) {
            if (line.startsWith("#")) {
                document.add(heading, text.toString());
                // 'Promise 2: put' is told as 'Promise 2'.
                heading = line.replaceAll("^#+ *", "").replaceAll(":.*", "");
                text.setLength(0);
            } else if (!line.startsWith("```")) {
                text.append(line).append('\n');
            }
        }
        document.add(heading, text.toString());
        return document;
    }

    private void add(String heading, String text) {
        // A promise begins with its method's face, which FaceTest looks at.
        String plain = text.replaceAll("\\s+", " ").trim().replaceAll("^`[^`]*`: ", "");
        texts.put(heading, plain);
        quoted.put(heading, new boolean[plain.length()]);
    }

    /** Whether these words stand under the heading; they are quoted from then on, wherever they stand there. */
    boolean quote(String heading, String words) {
        String text = texts.get(heading);
        if (text == null || words.isEmpty()) {
            return false;
        }
        boolean found = false;
        for (int at = text.indexOf(words); at >= 0; at = text.indexOf(words, at + 1)) {
            for (int i = 0; i < words.length(); i++) {
                quoted.get(heading)[at + i] = true;
            }
            found = true;
        }
        return found;
    }

    /** What has words and was not quoted, piece by piece, under the headings with this beginning. */
    List<String> unquoted(String headingBegins) {
        List<String> pieces = new ArrayList<>();
        for (Map.Entry<String, String> entry : texts.entrySet()) {
            if (entry.getKey().startsWith(headingBegins)) {
                unquoted(entry.getKey(), entry.getValue(), pieces);
            }
        }
        return pieces;
    }

    private void unquoted(String heading, String text, List<String> pieces) {
        StringBuilder piece = new StringBuilder();
        for (int i = 0; i <= text.length(); i++) {
            if (i < text.length() && !quoted.get(heading)[i]) {
                piece.append(text.charAt(i));
                continue;
            }
            if (piece.toString().matches(".*\\w.*")) {
                pieces.add(heading + ": '" + piece.toString().trim() + "'");
            }
            piece.setLength(0);
        }
    }
}
