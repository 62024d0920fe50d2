import java.io.IOException;
import java.nio.charset.StandardCharsets;
import java.nio.file.Files;
import java.nio.file.Path;
import java.util.ArrayList;
import java.util.List;
import java.util.Map;
import java.util.TreeMap;
import java.util.regex.Matcher;
import java.util.regex.Pattern;
import java.util.stream.Stream;

/**
 * That each sentence of the document has a test of its own: a test tells in the comment ahead of it which sentence it
 * is for, as Section: "sentence". .ci/run starts this in the project's folder.
 */
public final class SentencesTest {
    private static final Expect EXPECT = new Expect("SentencesTest");
    private static final Path DOCUMENT = Path.of("../shared/DOC.md");
    private static final Path TESTS = Path.of("src/test/java");
    private static final Pattern SECTION = Pattern.compile("## (Promise \\d+|Terms|What it is)(?::.*)?");
    private static final Pattern TEST = Pattern.compile("/\\*\\*((?:(?!\\*/).)*?)\\*/\\s+private static void (\\w+)\\(",
        Pattern.DOTALL);
    private static final Pattern QUOTE = Pattern.compile("(Promise \\d+|Terms|What it is): \"([^\"]*)\"");

    public static void main(String[] args) throws IOException {
        Map<String, List<String>> sentences = sentences();
        Map<String, List<String>> quotes = quotes();
        EXPECT.same("sections of the document", sentences.keySet().toString(), sections());
        for (String section : sentences.keySet()) {
            List<String> quoted = quotes.getOrDefault(section, List.of());
            for (String sentence : sentences.get(section)) {
                EXPECT.yes(section + " has no test for: " + sentence, quoted.contains(sentence));
            }
            for (String quote : quoted) {
                EXPECT.yes(section + " does not say: " + quote, sentences.get(section).contains(quote));
            }
        }
        EXPECT.finish();
    }

    private static String sections() {
        TreeMap<String, String> all = new TreeMap<>(Map.of("Terms", "", "What it is", ""));
        for (int promise = 1; promise <= 22; promise++) {
            all.put("Promise " + promise, "");
        }
        return all.keySet().toString();
    }

    private static Map<String, List<String>> sentences() throws IOException {
        Map<String, List<String>> found = new TreeMap<>();
        String section = "";
        for (String line : Files.readAllLines(DOCUMENT, StandardCharsets.UTF_8)) {
            if (line.startsWith("#")) {
                Matcher head = SECTION.matcher(line);
                section = head.matches() ? head.group(1) : "";
            } else if (!section.isEmpty() && !line.isBlank()) {
                found.computeIfAbsent(section, key -> new ArrayList<>()).addAll(split(section, line));
            }
        }
        return found;
    }

    /** A line of a list, and of a promise, is one sentence; the headings of paragraphs are none. */
    private static List<String> split(String section, String line) {
        String text = line.startsWith("- ") ? line.substring(2) : line;
        if (line.startsWith("- ")) {
            return List.of(text);
        }
        if (section.startsWith("Promise")) {
            return List.of(text.replaceFirst("^`[^`]*\\([^`]*`: ", ""));
        }
        List<String> parts = new ArrayList<>();
        for (String part : text.split("(?<=\\.)\\s+(?=[A-Z])")) {
            if (namesWhatHolds(part)) {
                parts.add(part);
            }
        }
        return parts;
    }

    /** Not the title of a paragraph, the opening of the document, nor the order of the calls in the interface. */
    private static boolean namesWhatHolds(String sentence) {
        return sentence.split(" ").length > 3 && !sentence.startsWith("Ahead of the calls")
            && !sentence.startsWith("Message links with credit:");
    }

    private static Map<String, List<String>> quotes() throws IOException {
        Map<String, List<String>> found = new TreeMap<>();
        try (Stream<Path> files = Files.list(TESTS)) {
            for (Path file : files.filter(path -> path.toString().endsWith("Test.java")).sorted().toList()) {
                readQuotes(Files.readString(file, StandardCharsets.UTF_8), file, found);
            }
        }
        return found;
    }

    private static void readQuotes(String code, Path file, Map<String, List<String>> found) {
        Matcher test = TEST.matcher(code);
        while (test.find()) {
            Matcher quote = QUOTE.matcher(test.group(1).replaceAll("\\s*\\n\\s*\\*\\s*", " "));
            while (quote.find()) {
                found.computeIfAbsent(quote.group(1), key -> new ArrayList<>()).add(quote.group(2));
                String name = test.group(2);
                EXPECT.yes(file + " never calls " + name, code.contains("\n        " + name + "("));
            }
        }
    }
}
