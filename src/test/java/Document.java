import java.io.IOException;
import java.nio.file.Files;
import java.nio.file.Path;
import java.util.ArrayList;
import java.util.List;
import java.util.regex.Matcher;
import java.util.regex.Pattern;

/** The document's parts, as far as the tests name them. */
final class Document {
    static final String FILE = "../shared/DOC.md";

    private static final Pattern METHOD =
            Pattern.compile("public (\\w+) (\\w+)\\(([^)]*)\\)(?: throws ([^;]+))?;");

    /** A method of the public face, in the document's words. */
    static final class Call {
        final String type;
        final String name;
        final List<String> parameterTypes = new ArrayList<>();
        final List<String> parameterNames = new ArrayList<>();
        final List<String> exceptions = new ArrayList<>();

        private Call(Matcher line) {
            type = line.group(1);
            name = line.group(2);
            for (String parameter : listed(line.group(3))) {
                String[] words = parameter.split(" ");
                parameterTypes.add(words[0]);
                parameterNames.add(words[1]);
            }
            exceptions.addAll(listed(line.group(4)));
        }

        /** As the document writes it, without public and throws. */
        String head() {
            List<String> parameters = new ArrayList<>();
            for (int i = 0; i < parameterTypes.size(); i++) {
                parameters.add(parameterTypes.get(i) + " " + parameterNames.get(i));
            }
            return type + " " + name + "(" + String.join(", ", parameters) + ")";
        }

        private static List<String> listed(String text) {
            return text == null || text.isEmpty() ? List.of() : List.of(text.split(", "));
        }
    }

    private final String text;

    Document(String file) throws IOException {
        text = Files.readString(Path.of(file));
    }

    static List<String> parts() {
        List<String> parts = new ArrayList<>();
        parts.add("What it is");
        parts.add("Terms");
        for (int step = 1; step <= 6; step++) {
            parts.add("Step " + step);
        }
        for (int promise = 1; promise <= 17; promise++) {
            parts.add("Promise " + promise);
        }
        parts.add("Not promised");
        return parts;
    }

    boolean says(String part, String words) {
        return textOf(part).contains(words);
    }

    /** The methods of the public face, in their order. */
    List<Call> face() {
        List<Call> calls = new ArrayList<>();
        Matcher line = METHOD.matcher(between("\n```java\n", "\n```"));
        while (line.find()) {
            calls.add(new Call(line));
        }
        return calls;
    }

    /** The number of the promise that bears this name; 0 if none does. */
    int promiseOf(String name) {
        Matcher heading = Pattern.compile("\n## Promise (\\d+): " + name + "\n").matcher(text);
        return heading.find() ? Integer.parseInt(heading.group(1)) : 0;
    }

    private String textOf(String part) {
        if (part.startsWith("Step ")) {
            return between("\n  " + part.substring(5) + ". ", "\n");
        }
        if (part.startsWith("Promise ")) {
            return between("\n## " + part + ": ", "\n## ");
        }
        return between("\n## " + part + "\n", "\n## ");
    }

    private String between(String head, String tail) {
        int start = text.indexOf(head);
        if (start < 0) {
            return "";
        }
        int end = text.indexOf(tail, start + head.length());
        return text.substring(start + head.length(), end < 0 ? text.length() : end);
    }
}
