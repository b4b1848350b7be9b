import java.io.IOException;
import java.nio.file.Files;
import java.nio.file.Path;
import java.util.ArrayList;
import java.util.LinkedHashMap;
import java.util.List;
import java.util.Map;

/** ../shared/DOC.md, taken apart. */
final class Doc {
    private static final Path PAGE = Path.of("..", "shared", "DOC.md");

    private Doc() {
    }

    private static List<String> lines() {
        try {
            return Files.readAllLines(PAGE);
        } catch (IOException e) {
            throw new IllegalStateException(e);
        }
    }

    /**
     * The sentences by the sections in which they stand, "Terms" or "Promise 4", without the signatures. What is
     * parted by a ';' counts as so many sentences, since each of these may name an edge of its own.
     */
    static Map<String, List<String>> sentences() {
        Map<String, List<String>> sentences = new LinkedHashMap<>();
        List<String> section = new ArrayList<>();
        boolean isCode = false;
        for (String line : lines()) {
            if (line.startsWith("```")) {
                isCode = !isCode;
            } else if (line.startsWith("#")) {
                section = new ArrayList<>();
                sentences.put(line.replaceAll("^#+ |:.*", ""), section);
            } else if (!isCode && !line.isBlank()) {
                String words = line.replaceAll("^- (?=`)|^`[^`]*\\([^`]*\\)[^`]*`: ", "");
                section.addAll(List.of(words.split("(?<=[.;]) ")));
            }
        }
        return sentences;
    }

    /** The lines of the public face, from the class to its last method. */
    static List<String> face() {
        List<String> face = new ArrayList<>();
        boolean isCode = false;
        for (String line : lines()) {
            if (line.startsWith("```")) {
                isCode = !isCode;
            } else if (isCode && line.startsWith("    ")) {
                face.add(line.strip());
            }
        }
        return face;
    }
}
