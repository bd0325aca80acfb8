import java.io.ByteArrayOutputStream;
import java.io.IOException;
import java.io.PrintStream;
import java.nio.charset.StandardCharsets;
import java.nio.file.Files;
import java.nio.file.Path;
import java.util.List;

/** README.md names every call of the face, and its example is the one that can be tried and prints what it says. */
public final class ReadmeTest {
    public static void main(String[] args) throws IOException {
        String readme = Files.readString(Path.of("README.md"));
        List<String> calls = Document.calls();
        Check.due("the calls of the face", calls.size(), 64);
        for (String call : calls) {
            Check.due("README.md has a row for " + call, readme.contains("\n| `" + call + "` | "), true);
        }
        Check.due("the example of README.md", block(readme, "java"),
                Files.readString(Path.of("src/example/java/Example.java")));
        Check.due("what the example prints", printed(), block(readme, "text"));
        Check.finish();
    }

    /** What stands in the only block of a kind. */
    private static String block(String readme, String kind) {
        String opening = "\n```" + kind + "\n";
        int start = readme.indexOf(opening) + opening.length();
        Check.due("one block of " + kind, start > opening.length() && readme.indexOf(opening, start) < 0, true);
        return readme.substring(start, readme.indexOf("```", start));
    }

    private static String printed() {
        PrintStream before = System.out;
        ByteArrayOutputStream bytes = new ByteArrayOutputStream();
        System.setOut(new PrintStream(bytes, true, StandardCharsets.UTF_8));
        try {
            Example.main(new String[0]);
        } finally {
            System.setOut(before);
        }
        return bytes.toString(StandardCharsets.UTF_8).replace(System.lineSeparator(), "\n");
    }
}
