import java.io.IOException;
import java.nio.file.Files;
import java.nio.file.Path;
import java.util.ArrayList;
import java.util.LinkedHashMap;
import java.util.List;
import java.util.Map;
import java.util.regex.Matcher;
import java.util.regex.Pattern;
import java.util.stream.Stream;

/** Every sentence of the document is quoted by a test that runs: a test's comment tells behind
 * "Doc", the section's name and a colon the words that the test stands for. */
final class QuotesTest {
    private static final Path DOC = Path.of("../shared/DOC.md");
    private static final Path TESTS = Path.of("src/test/java");
    private static final Pattern QUOTING = Pattern.compile(
            "/\\*\\* (Doc, (?:(?!\\*/).)*)\\*/\\s*private static void (\\w+)\\(\\)",
            Pattern.DOTALL);
    private static final Pattern QUOTE = Pattern.compile("Doc, ([^:]+): (.+)");
    /** The face is quoted whole by FaceTest; the rest promises nothing. */
    private static final List<String> WITHOUT_TESTS =
            List.of("IslandReserve", "The public face", "Not promised");
    private static final String OPENING = "A spinning reserve on an island: sets that stand, ";

    /** The words of each section, and which of their signs are quoted. */
    private final Map<String, String> words = new LinkedHashMap<>();
    private final Map<String, boolean[]> quoted = new LinkedHashMap<>();

    private QuotesTest() { }

    public static void main(String[] args) throws IOException {
        QuotesTest test = new QuotesTest();
        test.readDocument();
        try (Stream<Path> files = Files.list(TESTS)) {
            for (Path file : files.sorted().toList()) {
                test.readTest(file);
            }
        }
        test.askForEachSentence();
        Check.end();
    }

    private static String plain(String text) {
        return text.replaceAll("\\s+", " ").trim();
    }

    private void readDocument() throws IOException {
        String name = "";
        StringBuilder body = new StringBuilder();
        for (String line : Files.readAllLines(DOC)) {
            if (line.startsWith("#")) {
                keep(name, body.toString());
                name = line.replaceFirst("#+ ", "").replaceFirst(":.*", "");
                body.setLength(0);
            } else {
                body.append(line.replaceFirst("^- ", "")).append('\n');
            }
        }
        keep(name, body.toString());
    }

    private void keep(String name, String body) {
        // A promise begins with its call's face, which FaceTest asks for.
        String text = name.startsWith("Promise ")
                ? plain(body).replaceFirst("^`[^`]*`: ", "") : plain(body);
        words.put(name, text);
        quoted.put(name, new boolean[text.length()]);
    }

    private void readTest(Path file) throws IOException {
        String source = Files.readString(file);
        Matcher quoting = QUOTING.matcher(source);
        while (quoting.find()) {
            String test = file.getFileName() + ", " + quoting.group(2);
            isSo(test + " runs", source.contains("        " + quoting.group(2) + "();\n"));
            String comment = plain(quoting.group(1).replaceAll("\n\\s*\\* ?", " "));
            for (String quote : comment.split(" \\| ")) {
                mark(test, quote);
            }
        }
    }

    private void mark(String test, String quote) {
        Matcher parts = QUOTE.matcher(quote);
        boolean isQuote = parts.matches() && words.containsKey(parts.group(1));
        isSo(test + " names a section: " + quote, isQuote);
        if (!isQuote) {
            return;
        }
        String text = words.get(parts.group(1));
        int from = text.indexOf(parts.group(2));
        isSo(test + " quotes the document: " + quote, from >= 0);
        for (int place = Math.max(from, 0); place < from + parts.group(2).length(); place++) {
            quoted.get(parts.group(1))[place] = true;
        }
    }

    private void askForEachSentence() {
        for (Map.Entry<String, String> section : words.entrySet()) {
            if (WITHOUT_TESTS.contains(section.getKey())) {
                continue;
            }
            for (String left : notQuoted(section.getValue(), quoted.get(section.getKey()))) {
                isSo("no test quotes, in " + section.getKey() + ": " + left,
                        left.startsWith(OPENING));
            }
        }
    }

    private static List<String> notQuoted(String text, boolean[] isQuoted) {
        List<String> left = new ArrayList<>();
        StringBuilder run = new StringBuilder();
        for (int place = 0; place <= text.length(); place++) {
            if (place < text.length() && !isQuoted[place]) {
                run.append(text.charAt(place));
            } else {
                if (run.toString().matches("(?s).*[A-Za-z0-9].*")) {
                    left.add(plain(run.toString()));
                }
                run.setLength(0);
            }
        }
        return left;
    }

    private static void isSo(String what, boolean isRight) {
        Check.due(what, isRight ? 1 : 0, 1);
    }
}
