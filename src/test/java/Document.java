import java.io.IOException;
import java.io.UncheckedIOException;
import java.nio.file.Files;
import java.nio.file.Path;
import java.util.ArrayList;
import java.util.List;
import java.util.regex.Matcher;
import java.util.regex.Pattern;

/** The document that the class is written from. */
final class Document {
    private static final String WHOLE = read();

    private Document() {
    }

    private static String read() {
        try {
            return Files.readString(Path.of("../shared/DOC.md"));
        } catch (IOException e) {
            throw new UncheckedIOException(e);
        }
    }

    /** From a heading up to what comes behind its part. */
    static String between(String heading, String end) {
        int start = WHOLE.indexOf(heading);
        return WHOLE.substring(start, WHOLE.indexOf(end, start));
    }

    /** The public face, one declaration a line. */
    static List<String> face() {
        List<String> face = new ArrayList<>();
        for (String line : between("public final class", "\n}").split("\n")) {
            if (line.endsWith(";")) {
                face.add(line.trim());
            }
        }
        return face;
    }

    /** The methods of the face, each as its name with those of its parameters. */
    static List<String> calls() {
        List<String> calls = new ArrayList<>();
        Pattern method = Pattern.compile("public \\w+ (\\w+)\\((.*?)\\).*");
        for (String line : face()) {
            Matcher matcher = method.matcher(line);
            if (matcher.matches()) {
                calls.add(matcher.group(1) + "(" + matcher.group(2).replaceAll("\\w+ (\\w+)", "$1") + ")");
            }
        }
        return calls;
    }
}
