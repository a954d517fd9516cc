import java.io.IOException;
import java.lang.reflect.Constructor;
import java.lang.reflect.Field;
import java.lang.reflect.Method;
import java.lang.reflect.Modifier;
import java.nio.file.Files;
import java.nio.file.Path;
import java.util.Arrays;
import java.util.Map;
import java.util.Set;
import java.util.TreeMap;
import java.util.TreeSet;
import java.util.regex.Matcher;
import java.util.regex.Pattern;

/** The public face, told by the document, and those rules of LANGUAGE.md that can be seen in the text. */
public final class FaceTest {
    private static final Path MAIN = Path.of("src/main/java/NeedleToTheMissed.java");
    private static final Path DOCUMENT = Path.of("../shared/DOC.md");
    private static final Due DUE = new Due();

    public static void main(String[] args) throws IOException {
        face();
        nothingElseIsSeen();
        noPrivateMethodBearsAPublicName();
        words();
        shortMethods();
        shallowCalls();
        objectsWithTheObjectAlone();
        divisors();
        joinedTexts();
        DUE.end();
    }

    private static void face() throws IOException {
        String document = Files.readString(DOCUMENT);
        Set<String> told = new TreeSet<>();
        Matcher m = Pattern.compile("^ {4}public (int|long) (\\w+)\\(([^)]*)\\);", Pattern.MULTILINE).matcher(document);
        while (m.find()) {
            told.add(m.group(1) + " " + m.group(2) + "(" + m.group(3).replaceAll(" \\w+(, )?", " ") + ")");
        }
        Set<String> there = new TreeSet<>();
        for (Method method : NeedleToTheMissed.class.getDeclaredMethods()) {
            if (Modifier.isPublic(method.getModifiers())) {
                there.add(method.getReturnType() + " " + method.getName() + "("
                    + "int ".repeat(method.getParameterCount()) + ")");
            }
        }
        DUE.holds("the face is the document's: " + told + " / " + there, told.equals(there) && told.size() == 40);
        DUE.holds("public and final", NeedleToTheMissed.class.getModifiers() == (Modifier.PUBLIC | Modifier.FINAL));
        Constructor<?>[] constructors = NeedleToTheMissed.class.getDeclaredConstructors();
        DUE.holds("one constructor", constructors.length == 1 && constructors[0].getParameterCount() == 0
            && Modifier.isPublic(constructors[0].getModifiers()));
    }

    private static void nothingElseIsSeen() {
        for (Method method : NeedleToTheMissed.class.getDeclaredMethods()) {
            DUE.holds(method + " is public or private",
                Modifier.isPublic(method.getModifiers()) || Modifier.isPrivate(method.getModifiers()));
        }
        fieldsOf(NeedleToTheMissed.class, true);
        for (Class<?> inside : NeedleToTheMissed.class.getDeclaredClasses()) {
            DUE.holds(inside + " is static", Modifier.isStatic(inside.getModifiers()));
            DUE.holds(inside + " is not public", !Modifier.isPublic(inside.getModifiers()));
            fieldsOf(inside, false);
        }
        DUE.holds("some twelve classes", NeedleToTheMissed.class.getDeclaredClasses().length <= 12);
    }

    private static void fieldsOf(Class<?> owner, boolean outer) {
        int changing = 0;
        for (Field field : owner.getDeclaredFields()) {
            boolean isStatic = Modifier.isStatic(field.getModifiers());
            DUE.holds(field + " is private", !outer || Modifier.isPrivate(field.getModifiers()));
            DUE.holds(field + " is final if static", !isStatic || Modifier.isFinal(field.getModifiers()));
            changing += isStatic ? 0 : 1;
        }
        DUE.holds(owner + " has some twenty fields", changing <= 20);
    }

    private static void noPrivateMethodBearsAPublicName() {
        Set<String> names = new TreeSet<>();
        for (Method method : NeedleToTheMissed.class.getDeclaredMethods()) {
            DUE.holds(method.getName() + " is there once", names.add(method.getName()));
        }
        for (Class<?> inside : NeedleToTheMissed.class.getDeclaredClasses()) {
            for (Method method : inside.getDeclaredMethods()) {
                DUE.holds(method + " bears no public name", Arrays.stream(NeedleToTheMissed.class.getDeclaredMethods())
                    .noneMatch(m -> Modifier.isPublic(m.getModifiers()) && m.getName().equals(method.getName())));
                DUE.holds(method + " takes seven at most", method.getParameterCount() <= 7);
            }
        }
    }

    private static String withoutComments() throws IOException {
        String text = Files.readString(MAIN);
        DUE.holds("plain signs alone", text.chars().allMatch(c -> c < 128));
        return text.replaceAll("(?s)/\\*.*?\\*/", "").replaceAll("//[^\n]*", "");
    }

    private static void words() throws IOException {
        String text = withoutComments();
        for (String word : new String[] {"throw", "throws", "try", "catch", "finally", "synchronized", "assert",
            "import", "package", "volatile", "native", "Object", "Exception", "hashCode", "toString", "double", "float"}) {
            DUE.holds("no word " + word, !Pattern.compile("\\b" + word + "\\b").matcher(text).find());
        }
        DUE.holds("no lambda", !text.contains("->"));
        DUE.holds("no method reference", !text.contains("::"));
        DUE.holds("no name that ends in Exact", !text.contains("Exact"));
        DUE.holds("no loop without an end", !Pattern.compile("while \\(true\\)|for \\(;;").matcher(text).find());
        Set<String> library = new TreeSet<>();
        Matcher m = Pattern.compile("\\b(Math|Integer|Long|System|Arrays)\\.\\w+").matcher(text);
        while (m.find()) {
            library.add(m.group());
        }
        DUE.holds("the library's part: " + library, Set.of("Integer.bitCount", "Integer.compare",
            "Math.abs", "Math.max", "Math.min", "System.arraycopy").containsAll(library));
    }

    /** Names are there once each, so that the text tells who calls whom. */
    private static void shallowCalls() throws IOException {
        Map<String, String> bodies = new TreeMap<>();
        Matcher m = Pattern.compile("(?ms)^( {4}| {8})(?:(?:public|private|static) )*\\w+ (\\w+)\\([^;{]*\\) \\{\n(.*?)^\\1\\}")
            .matcher(withoutComments());
        while (m.find()) {
            DUE.holds(m.group(2) + " is there once", bodies.put(m.group(2), m.group(3)) == null);
        }
        DUE.holds("methods are found", bodies.size() > 90);
        for (String name : bodies.keySet()) {
            int depth = depth(name, bodies, 0);
            DUE.holds(name + " calls eight deep at most: " + depth, depth <= 8);
        }
    }

    private static int depth(String name, Map<String, String> bodies, int above) {
        if (above > 40) {
            return above;
        }
        int deepest = 0;
        Matcher m = Pattern.compile("(\\w+)\\(").matcher(bodies.get(name));
        while (m.find()) {
            if (bodies.containsKey(m.group(1))) {
                deepest = Math.max(deepest, depth(m.group(1), bodies, above + 1));
            }
        }
        return deepest + 1;
    }

    private static void shortMethods() throws IOException {
        int begun = 0;
        int number = 0;
        for (String line : Files.readAllLines(MAIN)) {
            number++;
            if (line.matches(" {4,8}[\\w].*\\) \\{")) {
                begun = number;
            } else if (line.matches(" {4}(?: {4})?\\}") && begun > 0) {
                DUE.holds("the method before line " + number + " is short", number - begun <= 60);
                begun = 0;
            }
        }
    }

    /** All calls of a run share one room: what a call made would be counted for each call. */
    private static void objectsWithTheObjectAlone() throws IOException {
        int made = 0;
        for (String line : withoutComments().split("\n")) {
            if (Pattern.compile("\\bnew\\b").matcher(line).find()) {
                DUE.holds("made with the object: " + line.trim(), line.matches(" {4,8}private final \\S+ \\w+ = new .*;"));
                made++;
            }
            DUE.holds("makes nothing aside: " + line.trim(), !line.matches(".*\\.(clone|values|substring|toCharArray)\\(.*"));
        }
        DUE.holds("what is made is found", made >= 10);
    }

    /** Each divisor is a constant above 0 or looked at just ahead of its use. */
    private static void divisors() throws IOException {
        Set<String> found = new TreeSet<>();
        Matcher m = Pattern.compile("[/%]=?\\s*([\\w.()]+)").matcher(withoutComments());
        while (m.find()) {
            found.add(m.group(1));
        }
        Set<String> known = Set.of("SIDE", "SIDE)", "2", "3", "3)", "5", "256", "shared", "lesser", "below");
        for (String divisor : found) {
            DUE.holds("the divisor " + divisor + " is known not to be 0", known.contains(divisor));
        }
        DUE.holds("divisors are found", found.size() >= 6);
    }

    private static void joinedTexts() throws IOException {
        DUE.holds("no text joined by +", !Pattern.compile("\"\\s*\\+|\\+=?\\s*\"").matcher(withoutComments()).find());
    }
}
