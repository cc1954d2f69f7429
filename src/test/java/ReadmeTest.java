import java.io.IOException;
import java.net.URL;
import java.net.URLClassLoader;
import java.nio.charset.StandardCharsets;
import java.nio.file.Files;
import java.nio.file.Path;
import java.util.regex.Matcher;
import java.util.regex.Pattern;
import javax.tools.ToolProvider;

/** README.md: its calls answer as it says, and each call of the face stands there in the document's words. */
public final class ReadmeTest {
    private static final String[] FACE = {"A new object", "feed", "trim", "teach", "errorAt", "count", "ground", "fisher",
        "pact", "cheat", "mend", "lot", "took", "blame", "gap", "pass", "foresee", "pays", "empty", "advise", "mean",
        "digest"};
    private static final Pattern BLOCK = Pattern.compile("```java\n(.*?)```", Pattern.DOTALL);
    private static final Pattern QUOTE = Pattern.compile("(^> .*\n)+", Pattern.MULTILINE);
    private static final Pattern ANSWERED = Pattern.compile("(.*\\)); // (\\S+)");

    private static final Pattern UNANSWERED = Pattern.compile("\\w+\\.\\w+\\(.*");

    private static int calls = 0;

    public static void main(String[] args) throws Exception {
        String page = new String(Files.readAllBytes(Path.of("README.md")), StandardCharsets.UTF_8);
        for (int i = 0; i < FACE.length; i++) {
            callIsExplained(i + 1, FACE[i], section(page, "#### " + FACE[i] + "\n"));
        }
        quotesAreOfTheDocument(page);
        runCalls(programOf(page));
        Due.end("ReadmeTest");
    }

    private static void callIsExplained(int promise, String name, String section) {
        Due.isTrue("README.md has the words of promise " + promise,
                plainWords(section).contains(plainWords(Document.bodyOf(promise))));
        String call = promise == 1 ? "new TideLots()" : "shore." + name + "(";
        Due.isTrue("README.md has an example of " + call, section.contains(call));
    }

    /** What stands from this heading to the next one. */
    private static String section(String page, String heading) {
        int from = page.indexOf(heading);
        if (from < 0) {
            return "";
        }
        int start = from + heading.length();
        int end = page.indexOf("\n#", start);
        return page.substring(start, end < 0 ? page.length() : end);
    }

    /** Without marks of code and of lists, and with one blank for all blanks and line ends. */
    private static String plainWords(String text) {
        return text.replace("`", "").replaceAll("\\s+(- )?", " ").replace(": - ", ": ").trim();
    }

    private static void quotesAreOfTheDocument(String page) {
        Matcher quotes = QUOTE.matcher(page);
        while (quotes.find()) {
            String words = quotes.group().replace("> ", "").replace('\n', ' ').trim();
            Due.isTrue("the document says: " + words, Document.says("anywhere", words));
        }
    }

    /** Blocks that begin with static are methods; all others are the lines of one method. */
    private static String programOf(String page) {
        StringBuilder methods = new StringBuilder();
        StringBuilder lines = new StringBuilder();
        Matcher blocks = BLOCK.matcher(page);
        while (blocks.find()) {
            if (blocks.group(1).startsWith("static ")) {
                methods.append(blocks.group(1));
            } else {
                for (String line : blocks.group(1).split("\n")) {
                    lines.append(lineOf(line)).append('\n');
                }
            }
        }
        return "public final class ReadmeCalls {\n" + methods + "public static void run() {\n" + lines + "}\n}\n";
    }

    /** A call with an answer behind it becomes one whose answer is compared. */
    private static String lineOf(String line) {
        Matcher answered = ANSWERED.matcher(line);
        if (!answered.matches()) {
            Due.isTrue("README.md tells the answer of " + line, !UNANSWERED.matcher(line).matches());
            return line;
        }
        String call = answered.group(1);
        return "ReadmeTest.compare(\"" + call.replace("\"", "\\\"") + "\", () -> " + call + ", \"" + answered.group(2)
                + "\");";
    }

    /** A call of README.md. */
    public interface Call {
        Object answer();
    }

    public static void compare(String call, Call made, String due) {
        calls++;
        String got;
        try {
            got = String.valueOf(made.answer());
        } catch (RuntimeException e) {
            got = e.getClass().getSimpleName();
        }
        Due.isTrue("README.md: " + call + " gave " + got + ", README.md says " + due, got.equals(due));
    }

    private static void runCalls(String program) throws Exception {
        Path folder = Files.createTempDirectory("readme");
        try {
            Path source = folder.resolve("ReadmeCalls.java");
            Files.write(source, program.getBytes(StandardCharsets.UTF_8));
            int failed = ToolProvider.getSystemJavaCompiler().run(null, null, null, "-d", folder.toString(),
                    "-cp", System.getProperty("java.class.path"), source.toString());
            Due.same("javac of the lines of README.md", failed, 0);
            if (failed == 0) {
                try (URLClassLoader loader = new URLClassLoader(new URL[] {folder.toUri().toURL()})) {
                    loader.loadClass("ReadmeCalls").getMethod("run").invoke(null);
                }
                Due.isTrue("there are calls in README.md", calls > FACE.length);
            }
        } finally {
            removeAll(folder);
        }
    }

    private static void removeAll(Path folder) throws IOException {
        try (var files = Files.list(folder)) {
            for (Path file : files.toList()) {
                Files.delete(file);
            }
        }
        Files.delete(folder);
    }
}
