import java.io.IOException;
import java.lang.reflect.InvocationTargetException;
import java.lang.reflect.Method;
import java.lang.reflect.Modifier;
import java.nio.file.DirectoryStream;
import java.nio.file.Files;
import java.nio.file.Path;
import java.util.ArrayList;
import java.util.List;
import java.util.Set;
import java.util.TreeSet;
import java.util.regex.Matcher;
import java.util.regex.Pattern;

/** README.md: its examples answer what it says, it has the document's words, and it names each test. */
public final class ReadmeTest {
    private static final Path README = Path.of("README.md");
    private static final Pattern BLOCK = Pattern.compile("(?ms)^```java\n(.*?)^```$");
    private static final Pattern MADE = Pattern.compile("SaltWedge river = new SaltWedge\\(\\);");
    private static final Pattern TYPED = Pattern.compile(
        "for \\(char sign : \"([^\"]*)\"\\.toCharArray\\(\\)\\) \\{\n    river\\.type\\(sign\\);\n\\}");
    private static final Pattern CALLED = Pattern.compile("river\\.(\\w+)\\((.*)\\); +// (-?\\d+|[A-Z_]+)(:.*)?");
    private static final Pattern STEP = Pattern.compile("(?m)^(for [^}]*\n\\}|.+)$");
    private static final String[] CONSTANTS = {"UNKNOWN", "BAD_VALUE", "FULL", "NOT_POSSIBLE", "NONE"};

    private final Set<String> called = new TreeSet<>();
    private SaltWedge river = null;

    public static void main(String[] args) throws IOException {
        String readme = Files.readString(README);
        Check.under("README.md");
        examples(readme);
        words(readme);
        tests(readme);
        Check.end();
    }

    private static void examples(String readme) {
        ReadmeTest all = new ReadmeTest();
        Matcher block = BLOCK.matcher(readme);
        int blocks = 0;
        while (block.find()) {
            all.river = null;
            Matcher step = STEP.matcher(block.group(1));
            while (step.find()) {
                all.step(step.group());
            }
            blocks++;
        }
        Check.hold("there are examples", blocks > 0);
        for (Method method : SaltWedge.class.getDeclaredMethods()) {
            boolean inFace = Modifier.isPublic(method.getModifiers());
            Check.hold("an example calls " + method.getName(), !inFace || all.called.contains(method.getName()));
        }
    }

    /** One statement of an example, as the program that it stands in would do it. */
    private void step(String line) {
        Matcher typed = TYPED.matcher(line);
        Matcher call = CALLED.matcher(line);
        if (MADE.matcher(line).matches()) {
            river = new SaltWedge();
        } else if (river == null) {
            Check.complain("an example begins without an object: " + line);
        } else if (typed.matches()) {
            typed.group(1).chars().forEach(sign -> river.type((char) sign));
        } else if (call.matches()) {
            called.add(call.group(1));
            Check.due(line, answer(call.group(1), call.group(2)), number(call.group(3)));
        } else {
            Check.complain("an example has a line that is not understood: " + line);
        }
    }

    private int answer(String name, String words) {
        List<Object> values = new ArrayList<>();
        List<Class<?>> types = new ArrayList<>();
        for (String word : words.isEmpty() ? new String[0] : words.split(", ")) {
            boolean isSign = word.startsWith("'");
            values.add(isSign ? (Object) word.charAt(1) : (Object) Integer.parseInt(word));
            types.add(isSign ? char.class : int.class);
        }
        try {
            Method method = SaltWedge.class.getMethod(name, types.toArray(new Class<?>[0]));
            return (int) method.invoke(river, values.toArray());
        } catch (NoSuchMethodException | IllegalAccessException | InvocationTargetException problem) {
            throw new IllegalStateException("the example's call " + name + "(" + words + ") can't be made", problem);
        }
    }

    private static int number(String word) {
        for (int at = 0; at < CONSTANTS.length; at++) {
            if (CONSTANTS[at].equals(word)) {
                return -1 - at;
            }
        }
        return Integer.parseInt(word);
    }

    /** What the document says of each promise, and of each constant, stands in README.md word by word. */
    private static void words(String readme) {
        String words = readme.replaceAll("\\s+", " ");
        for (String heading : Doc.headings()) {
            if (heading.startsWith("Promise ")) {
                Check.hold("it has the words of " + heading, words.contains(Doc.wordsOf(heading)));
            }
        }
        Matcher constant = Pattern.compile("`([A-Z_]+ = -\\d)`: ([^`]*?\\.) (?=[`A])").matcher(Doc.wordsOf("ERRORS"));
        int constants = 0;
        while (constant.find()) {
            String row = "| `" + constant.group(1) + "` | " + constant.group(2) + " |";
            Check.hold("it has the row " + row, words.contains(row));
            constants++;
        }
        Check.hold("five constants, or no document", constants == 5 || !Doc.isHere());
    }

    private static void tests(String readme) throws IOException {
        try (DirectoryStream<Path> files = Files.newDirectoryStream(Path.of("tests"), "*.java")) {
            for (Path file : files) {
                Check.hold("it names tests/" + file.getFileName(), readme.contains("`tests/" + file.getFileName() + "`"));
            }
        }
    }
}
