import java.io.IOException;
import java.io.UncheckedIOException;
import java.nio.file.Files;
import java.nio.file.Path;
import java.util.regex.Matcher;
import java.util.regex.Pattern;

/** What the document says ahead of its sections and behind them: what the class does, its constant, its face. */
final class EdgesOfFace extends Edges {

    static void run() {
        whatTheClassDoes();
        theConstant();
        theInterfaceSays();
    }

    private static void whatTheClassDoes() {
        at("Terms");
        says("The class parses a memory with copies, makes copies and writes, tells values, chains and debts, answers"
                + " what-if questions, and keeps accounts.");
        CopyDebts x = Check.loaded(EIGHT + ";copy 0 3 2");
        due(x.copy(3, 5, 1), 1);
        due(x.write(1, 50), 1);
        due(Check.values(x), "1 50 3 1 2 1 7 8");
        due(Check.text(x, x.writeChain(5)), "5<3<0=1");
        due(Check.text(x, x.writeDebts()), "3x1<0,5x1<3");
        due(x.forcedByWrite(0), 1);
        due(x.owedIfCopy(5, 7, 1), 3);
        due(Check.accounts(x), "2 3 0 1 0 0 0 3 0");
    }

    private static void theConstant() {
        at("The constants");
        says("The constants: `NONE = -1`: The value for \"none\", -1.");
        due(CopyDebts.NONE, -1);
        CopyDebts x = Check.loaded(EIGHT);
        int[] answers = {x.source(0), x.promise(0), x.firstOwed(0), x.deepest(), x.distance(0, 1), x.oldest(),
            x.next(), x.find(9, 0), x.errorPosition()};
        for (int answer : answers) {
            due(answer, CopyDebts.NONE);
        }
    }

    /** Each group of calls stands below its heading, in the order of the document, and nothing else does. */
    private static void theInterfaceSays() {
        at("The constants");
        String whole = Document.between("The constants:", "## Promise 1:");
        Matcher group = Pattern.compile("Ahead of the calls (.*) the interface says: (---- .*)\\.").matcher(whole);
        StringBuilder want = new StringBuilder();
        int groups = 0;
        while (group.find()) {
            says(group.group());
            String told = group.group(2) + " " + group.group(1).replaceAll("[`,]", "") + "\n";
            due(declared().contains(told), true);
            want.append(told);
            groups++;
        }
        due(groups, 7);
        due(declared(), want);
    }

    /** The headings of the source, each with the public methods below it. */
    private static String declared() {
        String source;
        try {
            source = Files.readString(Path.of("src/main/java/CopyDebts.java"));
        } catch (IOException e) {
            throw new UncheckedIOException(e);
        }
        Matcher part = Pattern.compile("\n {4}(?:// (---- .*)|public \\w+ (\\w+)\\(.*)").matcher(source);
        StringBuilder declared = new StringBuilder();
        String heading = "";
        while (part.find()) {
            if (part.group(1) != null) {
                heading = "\n" + part.group(1);
            } else {
                declared.append(heading).append(' ').append(part.group(2));
                heading = "";
            }
        }
        return declared.append('\n').substring(1);
    }
}
