import java.io.IOException;
import java.lang.reflect.Method;
import java.lang.reflect.Modifier;
import java.nio.file.Files;
import java.nio.file.Path;
import java.util.List;
import java.util.regex.Matcher;
import java.util.regex.Pattern;
import java.util.stream.Stream;

/** README.md holds: its examples answer what it says, it names every call and every test. */
public final class ReadmeTest {
    private static final Path README = Path.of("README.md");
    private static final Path TESTS = Path.of("src/test/java");
    private static final Pattern BLOCK = Pattern.compile("(?ms)^```java\n(.*?)^```");
    private static final Pattern TOLD = Pattern.compile("for \\(char c : \"([^\"]*)\"\\.toCharArray\\(\\)\\)");
    private static final Pattern ANSWERED = Pattern.compile("^x\\.(\\w+\\([^()]*\\)); +// (-?\\d+).*");
    private static final Due DUE = new Due();

    public static void main(String[] args) throws IOException {
        String readme = Files.readString(README);
        examples(readme);
        everyCall(readme);
        everyTest(readme);
        DUE.end();
    }

    private static void examples(String readme) {
        int answers = 0;
        Matcher block = BLOCK.matcher(readme);
        while (block.find()) {
            NeedleToTheMissed x = new NeedleToTheMissed();
            for (String line : block.group(1).split("\n")) {
                answers += example(x, line);
            }
        }
        DUE.holds("README.md has examples with answers: " + answers, answers >= 15);
    }

    private static int example(NeedleToTheMissed x, String line) {
        Matcher told = TOLD.matcher(line);
        if (told.find()) {
            for (char c : told.group(1).toCharArray()) {
                x.letter(c);
            }
            return 0;
        }
        Matcher answered = ANSWERED.matcher(line);
        if (!answered.matches()) {
            DUE.holds("README.md tells the answer: " + line, !line.startsWith("x."));
            return 0;
        }
        DUE.is("README.md: " + answered.group(1), Calls.call(x, answered.group(1)), Long.parseLong(answered.group(2)));
        return 1;
    }

    private static void everyCall(String readme) {
        for (Method method : NeedleToTheMissed.class.getDeclaredMethods()) {
            if (Modifier.isPublic(method.getModifiers())) {
                DUE.holds("README.md tells of " + method.getName(), readme.contains("`" + method.getName() + "("));
            }
        }
    }

    private static void everyTest(String readme) throws IOException {
        List<String> names;
        try (Stream<Path> all = Files.list(TESTS)) {
            names = all.map(file -> file.getFileName().toString()).filter(name -> name.endsWith("Test.java"))
                .map(name -> name.replace(".java", "")).sorted().toList();
        }
        DUE.holds("there are tests", names.size() > 20);
        for (String name : names) {
            DUE.holds("README.md's table has " + name,
                Pattern.compile("(?m)^\\|.*\\b" + name + "\\b.*\\|$").matcher(readme).find());
        }
    }
}
