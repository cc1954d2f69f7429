import java.io.IOException;
import java.nio.charset.StandardCharsets;
import java.nio.file.Files;
import java.nio.file.Path;

/** What ../shared/DOC.md says, part by part: so that a test can name its sentence by the sentence's own words. */
final class Document {
    private static final Path FILE = Path.of("..", "shared", "DOC.md");
    /** Empty, if there is no document beside the project: then every sentence is taken as it is. */
    private static final String WHOLE = read();

    private Document() {
    }

    /** Whether the part that is called so has these words; line ends count as blanks. */
    static boolean says(String where, String words) {
        return WHOLE.isEmpty() || part(where).contains(words);
    }

    /** What stands below the heading of a promise. */
    static String bodyOf(int promise) {
        String part = part("promise " + promise);
        int end = part.indexOf("`");
        return end < 0 ? "" : part.substring(end);
    }

    private static String part(String where) {
        switch (where) {
            case "anywhere": return WHOLE;
            case "Terms": return between("## Terms", "== 1. The language");
            case "1. The language": return between("== 1. The language", "== 2. Tides");
            case "2. Tides": return between("== 2. Tides", "## Promise 1:");
            case "What it is": return between("## What it is", "## The public face");
            default:
                // "promise 7" is the part of the promise 7.
                String number = where.replace("promise ", "");
                return between("## Promise " + number + ":", "## ");
        }
    }

    private static String between(String start, String end) {
        int from = WHOLE.indexOf(start);
        if (from < 0) {
            return "";
        }
        int to = WHOLE.indexOf(end, from + start.length());
        return WHOLE.substring(from, to < 0 ? WHOLE.length() : to);
    }

    private static String read() {
        if (!Files.exists(FILE)) {
            System.out.println("there is no " + FILE + ": the words of the sentences are not compared with it");
            return "";
        }
        try {
            return new String(Files.readAllBytes(FILE), StandardCharsets.UTF_8).replaceAll("\\s+", " ");
        } catch (IOException e) {
            throw new IllegalStateException("cannot read " + FILE.toAbsolutePath(), e);
        }
    }
}
