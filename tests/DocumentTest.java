import java.io.IOException;
import java.nio.file.DirectoryStream;
import java.nio.file.Files;
import java.nio.file.Path;
import java.util.List;

/** Each section of the document, but for those that only introduce others, is quoted by a test. */
public final class DocumentTest {
    private static final List<String> NOT_QUOTED = List.of("Terms", "Not promised");

    public static void main(String[] args) throws IOException {
        StringBuilder tests = new StringBuilder();
        try (DirectoryStream<Path> files = Files.newDirectoryStream(Path.of("tests"), "*Test.java")) {
            for (Path file : files) {
                tests.append(Files.readString(file));
            }
        }
        for (String heading : Doc.headings()) {
            if (!NOT_QUOTED.contains(heading)) {
                Check.hold("a test quotes " + heading, tests.indexOf("Doc.section(\"" + heading + "\")") >= 0);
            }
        }
        Check.hold("the document has 36 sections, or is not here", Doc.headings().size() == 36 || !Doc.isHere());
        Check.end();
    }
}
