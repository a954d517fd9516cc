import java.io.IOException;
import java.nio.file.Files;
import java.nio.file.Path;
import java.util.ArrayList;
import java.util.List;
import java.util.Map;
import java.util.TreeMap;
import java.util.regex.Matcher;
import java.util.regex.Pattern;
import java.util.stream.Stream;

/**
 * The words that the tests quote by DUE.terms and DUE.promise stand in the document, and no word of
 * the Terms and the promises goes without a test that quotes it.
 */
public final class SentencesTest {
    private static final Path DOCUMENT = Path.of("../shared/DOC.md");
    private static final Path TESTS = Path.of("src/test/java");
    private static final Pattern QUOTE = Pattern.compile(
        "DUE\\.(?:terms|promise)\\((?:(\\d+),\\s*)?((?:\"(?:[^\"\\\\]|\\\\.)*\"[\\s+]*)+)\\);");
    private static final Pattern LITERAL = Pattern.compile("\"((?:[^\"\\\\]|\\\\.)*)\"");
    private static final int PROMISES = 41;
    private static final Due DUE = new Due();

    public static void main(String[] args) throws IOException {
        // 0 is the Terms.
        Map<Integer, String> parts = parts();
        Map<Integer, boolean[]> quoted = new TreeMap<>();
        parts.forEach((part, words) -> quoted.put(part, new boolean[words.length()]));
        DUE.is("parts", parts.size(), PROMISES + 1);
        for (Path file : files()) {
            markQuotes(file, parts, quoted);
        }
        parts.forEach((part, words) -> DUE.is(name(part) + " without a test: " + rest(words, quoted.get(part)),
            rest(words, quoted.get(part)).length(), 0));
        DUE.end();
    }

    private static String name(int part) {
        return part == 0 ? "Terms" : "Promise " + part;
    }

    private static List<Path> files() throws IOException {
        try (Stream<Path> all = Files.list(TESTS)) {
            return all.filter(file -> file.toString().endsWith("Test.java")).sorted().toList();
        }
    }

    private static Map<Integer, String> parts() throws IOException {
        String document = Files.readString(DOCUMENT);
        Map<Integer, String> parts = new TreeMap<>();
        Matcher terms = Pattern.compile("(?s)## Terms\n(.*?)\n## Promise 1:").matcher(document);
        if (terms.find()) {
            parts.put(0, oneLine(terms.group(1).replaceAll("```\\w*", " ").replace("==== II.", " ")));
        }
        Matcher promise = Pattern.compile("(?s)## Promise (\\d+): [^\n]*\n\\s*`[^`]*`:(.*?)(?=\n## )").matcher(document);
        while (promise.find()) {
            parts.put(Integer.valueOf(promise.group(1)), oneLine(promise.group(2)));
        }
        return parts;
    }

    private static String oneLine(String text) {
        return text.replaceAll("\\s+", " ").trim();
    }

    private static void markQuotes(Path file, Map<Integer, String> parts, Map<Integer, boolean[]> quoted)
            throws IOException {
        Matcher quotes = QUOTE.matcher(Files.readString(file));
        while (quotes.find()) {
            int part = quotes.group(1) == null ? 0 : Integer.parseInt(quotes.group(1));
            String words = joined(quotes.group(2));
            String text = parts.getOrDefault(part, "");
            int at = text.indexOf(words);
            DUE.holds(file.getFileName() + " quotes words of " + name(part) + ": " + words, at >= 0);
            for (int i = Math.max(at, 0); at >= 0 && i < at + words.length(); i++) {
                quoted.get(part)[i] = true;
            }
        }
    }

    private static String joined(String literals) {
        List<String> all = new ArrayList<>();
        Matcher literal = LITERAL.matcher(literals);
        while (literal.find()) {
            all.add(literal.group(1).replace("\\\"", "\""));
        }
        return String.join("", all);
    }

    private static String rest(String words, boolean[] quoted) {
        StringBuilder rest = new StringBuilder();
        for (int i = 0; i < words.length(); i++) {
            if (!quoted[i] && Character.isLetterOrDigit(words.charAt(i))) {
                rest.append(words.charAt(i));
            }
        }
        return rest.toString();
    }
}
