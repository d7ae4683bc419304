import java.io.IOException;
import java.nio.file.Files;
import java.nio.file.Path;
import java.util.ArrayList;
import java.util.List;

/** The document's parts, as far as the tests name them. */
final class Document {
    private final String text;

    Document(String file) throws IOException {
        text = Files.readString(Path.of(file));
    }

    static List<String> parts() {
        List<String> parts = new ArrayList<>();
        parts.add("Terms");
        for (int step = 1; step <= 6; step++) {
            parts.add("Step " + step);
        }
        for (int promise = 1; promise <= 17; promise++) {
            parts.add("Promise " + promise);
        }
        return parts;
    }

    boolean says(String part, String words) {
        return textOf(part).contains(words);
    }

    private String textOf(String part) {
        if (part.equals("Terms")) {
            return between("\n## Terms\n", "\n## ");
        }
        if (part.startsWith("Step ")) {
            return between("\n  " + part.substring(5) + ". ", "\n");
        }
        return between("\n## " + part + ": ", "\n## ");
    }

    private String between(String head, String tail) {
        int start = text.indexOf(head);
        if (start < 0) {
            return "";
        }
        int end = text.indexOf(tail, start + head.length());
        return text.substring(start + head.length(), end < 0 ? text.length() : end);
    }
}
