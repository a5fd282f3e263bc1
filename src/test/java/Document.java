import java.io.IOException;
import java.io.UncheckedIOException;
import java.nio.file.Files;
import java.nio.file.Path;
import java.util.ArrayList;
import java.util.List;

/** The document by its sections, each as one line: 0 is what stands ahead of Promise 1, then the promises. */
final class Document {
    static final int PROMISES = 40;
    private static final Path PLACE = Path.of("../shared/DOC.md");
    private static final String WHOLE = read();

    private Document() {
    }

    private static String read() {
        try {
            return Files.readString(PLACE);
        } catch (IOException e) {
            throw new UncheckedIOException(e);
        }
    }

    static String section(int promise) {
        int from = promise == 0 ? 0 : WHOLE.indexOf("## Promise " + promise + ":");
        String next = promise < PROMISES ? "## Promise " + (promise + 1) + ":" : "## Not promised";
        String section = WHOLE.substring(from, WHOLE.indexOf(next));
        return section.replaceAll("(?s)```java.*?```", "")
                .replaceAll("```(text)?", "")
                .replaceAll("(?m)^#.*$", "")
                .replaceAll("`[^`]*`: ", "")
                .replaceAll("==== \\d\\.", "")
                .replaceAll("\\s+", " ").trim();
    }

    /** A section's text cut where a sentence ends, or a part of one at a semicolon. */
    static List<String> sentences(int promise) {
        List<String> all = new ArrayList<>();
        for (String part : section(promise).split("[.;](?= |$)")) {
            if (!part.isBlank()) {
                all.add(part.trim());
            }
        }
        return all;
    }

    /** The methods of the face as the document writes them: "int town(int n) throws IllegalArgumentException". */
    static List<String> face() {
        int from = WHOLE.indexOf("```java");
        List<String> heads = new ArrayList<>();
        for (String line : WHOLE.substring(from, WHOLE.indexOf("```", from + 3)).split("\n")) {
            String head = line.trim();
            if (head.startsWith("public ") && head.endsWith(";") && head.contains(") throws ") || head.endsWith(");")) {
                heads.add(head.substring("public ".length(), head.length() - 1));
            }
        }
        return heads;
    }
}
