import java.io.IOException;
import java.lang.reflect.Constructor;
import java.lang.reflect.Field;
import java.lang.reflect.Member;
import java.lang.reflect.Method;
import java.lang.reflect.Modifier;
import java.nio.file.Files;
import java.nio.file.Path;
import java.util.Arrays;
import java.util.List;
import java.util.Set;
import java.util.TreeSet;
import java.util.regex.Matcher;
import java.util.regex.Pattern;

/** The public face of the document, and those rules of LANGUAGE.md that a program can look after. */
public final class FaceTest {
    private static final Path SOURCE = Path.of("src/main/java/SaltWedge.java");
    private static final Set<String> FACE = new TreeSet<>(List.of(
        "dig(int,int)", "build(int,int)", "flow(int)", "set(int,int)", "sink(int,int)", "fillIn(int)",
        "setRate(int,int)", "tide(int,int)", "type(char)", "clearText()", "perform()", "stopped(int)", "undo()",
        "keep()", "restore()", "cell(int,int)", "well(int,int)", "reach()", "mark(int,int)", "stopCell(int)",
        "reason(int,int)", "restsIn(int,int)", "leastFlow(int,int)", "bestSill(int,int)", "count(int)"));
    private static final Set<String> CONSTANTS = new TreeSet<>(List.of(
        "UNKNOWN", "BAD_VALUE", "FULL", "NOT_POSSIBLE", "NONE"));
    private static final String FORBIDDEN = "\\b(throw|throws|try|catch|finally|synchronized|assert|volatile|native|"
        + "package|equals|hashCode|toString|System\\.out|Random|Thread)\\b|->|::";

    public static void main(String[] args) throws IOException {
        Doc.section("The public face");
        Doc.says("```java " + faceOfTheSource() + " ```");
        face();
        constants();
        Doc.end();
        Check.under("LANGUAGE.md");
        classesInside();
        words();
        Check.end();
    }

    /** The public lines of the source, in their order and with the names of their arguments. */
    private static String faceOfTheSource() throws IOException {
        StringBuilder face = new StringBuilder();
        for (String line : Files.readAllLines(SOURCE)) {
            if (line.startsWith("public ")) {
                face.append(line);
            } else if (line.startsWith("    public ")) {
                face.append(" ").append(line.strip().replace(" {", ";"));
            }
        }
        return face.append(" }").toString();
    }

    private static void face() {
        Check.hold("SaltWedge is public and final",
            (SaltWedge.class.getModifiers() & (Modifier.PUBLIC | Modifier.FINAL)) == (Modifier.PUBLIC | Modifier.FINAL));
        Constructor<?>[] constructors = SaltWedge.class.getDeclaredConstructors();
        Check.due("constructors", constructors.length, 1);
        Check.hold("the constructor is public", Modifier.isPublic(constructors[0].getModifiers()));
        Check.due("arguments of the constructor", constructors[0].getParameterCount(), 0);
        Set<String> seen = new TreeSet<>();
        for (Method method : SaltWedge.class.getDeclaredMethods()) {
            if (Modifier.isPrivate(method.getModifiers())) {
                continue;
            }
            Check.hold(method + " is public, not static, and returns int", Modifier.isPublic(method.getModifiers())
                && !Modifier.isStatic(method.getModifiers()) && method.getReturnType() == int.class);
            StringBuilder signature = new StringBuilder(method.getName()).append("(");
            for (Class<?> type : method.getParameterTypes()) {
                signature.append(signature.charAt(signature.length() - 1) == '(' ? "" : ",").append(type.getName());
            }
            seen.add(signature.append(")").toString());
        }
        Check.hold("the methods are those of the document: " + seen, seen.equals(FACE));
    }

    private static void constants() {
        Check.due("UNKNOWN", SaltWedge.UNKNOWN, -1);
        Check.due("BAD_VALUE", SaltWedge.BAD_VALUE, -2);
        Check.due("FULL", SaltWedge.FULL, -3);
        Check.due("NOT_POSSIBLE", SaltWedge.NOT_POSSIBLE, -4);
        Check.due("NONE", SaltWedge.NONE, -5);
        Set<String> seen = new TreeSet<>();
        for (Field field : SaltWedge.class.getDeclaredFields()) {
            if (!Modifier.isPrivate(field.getModifiers())) {
                seen.add(field.getName());
                Check.due("modifiers of " + field.getName(), field.getModifiers(),
                    Modifier.PUBLIC | Modifier.STATIC | Modifier.FINAL);
            }
        }
        Check.hold("the constants are those of the document: " + seen, seen.equals(CONSTANTS));
    }

    private static void classesInside() {
        Class<?>[] inside = SaltWedge.class.getDeclaredClasses();
        Check.hold("some twelve classes at most", inside.length < 12);
        Set<String> names = new TreeSet<>();
        for (Method method : SaltWedge.class.getDeclaredMethods()) {
            if (Modifier.isPublic(method.getModifiers())) {
                names.add(method.getName());
            }
        }
        for (Method method : SaltWedge.class.getDeclaredMethods()) {
            Check.hold(method + " has no name of the face",
                Modifier.isPublic(method.getModifiers()) || !names.contains(method.getName()));
        }
        for (Class<?> type : inside) {
            Check.hold(type + " is static and not public",
                Modifier.isStatic(type.getModifiers()) && !Modifier.isPublic(type.getModifiers()));
            staticFieldsAreFinal(type);
            for (Member method : type.getDeclaredMethods()) {
                Check.hold(method + " has no name of the face", !names.contains(method.getName()));
            }
        }
        staticFieldsAreFinal(SaltWedge.class);
    }

    private static void staticFieldsAreFinal(Class<?> type) {
        int own = 0;
        for (Field field : type.getDeclaredFields()) {
            boolean isStatic = Modifier.isStatic(field.getModifiers());
            Check.hold(field + " is final", !isStatic || Modifier.isFinal(field.getModifiers()));
            own += isStatic ? 0 : 1;
        }
        Check.hold("some twenty fields at most in " + type, own <= 20);
    }

    private static void words() throws IOException {
        String source = Files.readString(SOURCE);
        Check.hold("the source has signs 1 to 127 alone", source.chars().allMatch(sign -> sign >= 1 && sign <= 127));
        String code = source.replaceAll("(?s)/\\*.*?\\*/", "").replaceAll("//[^\n]*", "");
        Matcher matcher = Pattern.compile(FORBIDDEN).matcher(code);
        while (matcher.find()) {
            Check.hold("the source does without " + matcher.group(), false);
        }
        List<String> imports = code.lines().filter(line -> line.startsWith("import ")).toList();
        Check.hold("imports: " + imports, Arrays.asList("import java.util.Arrays;").containsAll(imports));
        methodsAreShort(source);
    }

    /** A method ends with the first line that closes as deep as it began. */
    private static void methodsAreShort(String source) {
        int begun = 0;
        String indent = "";
        String[] lines = source.split("\n");
        for (int at = 0; at < lines.length; at++) {
            Matcher head = Pattern.compile("^( {4}| {8})(?!static|private static final class)\\S.*\\) \\{$").matcher(lines[at]);
            if (head.matches()) {
                begun = at;
                indent = head.group(1);
            } else if (lines[at].equals(indent + "}")) {
                Check.hold("line " + (begun + 1) + " begins a short method", at - begun < 60);
            }
        }
    }
}
