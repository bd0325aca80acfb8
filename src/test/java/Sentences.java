import java.util.ArrayList;
import java.util.BitSet;
import java.util.HashSet;
import java.util.LinkedHashMap;
import java.util.List;
import java.util.Map;
import java.util.Set;
import java.util.regex.Matcher;
import java.util.regex.Pattern;

/**
 * The sentences of the document, by section and by promise, but for "Not promised". A test quotes the one that it holds; at the end each
 * sentence of them must have been quoted, and for each two exceptions of a promise there must have been a test of
 * their order.
 */
final class Sentences {
    /** What a parameter is, and an answer in a few words, need no test of their own unless they name an edge. */
    private static final Pattern PLAIN = Pattern.compile("- `.*|Returns( \\w+){1,4}\\.");
    private static final Pattern EDGE = Pattern.compile("NONE|\\bif\\b|\\d to|\\bto \\d|\\bfrom 0|0 or 1|or more");

    private static final Map<String, Part> PARTS = read();

    private Sentences() {
    }

    /** A section or a promise: its sentences, one a line, and which of their signs were quoted. */
    private static final class Part {
        final StringBuilder text = new StringBuilder();
        final List<String> exceptions = new ArrayList<>();
        final Set<String> orders = new HashSet<>();
        final BitSet quoted = new BitSet();

        void add(String sentence) {
            String plain = sentence.replaceAll("\\s+", " ").trim();
            if (!plain.isEmpty()) {
                text.append(plain).append('\n');
            }
            if (plain.startsWith("Throws `")) {
                exceptions.add(plain.substring(8, plain.indexOf('`', 8)));
            }
        }

        boolean quote(String sentence) {
            int at = text.indexOf(sentence);
            boolean found = at >= 0;
            for (; at >= 0; at = text.indexOf(sentence, at + 1)) {
                quoted.set(at, at + sentence.length());
            }
            return found;
        }

        /** Whether all letters and digits of a line were quoted. */
        private boolean isQuoted(int start, String line) {
            for (int k = 0; k < line.length(); k++) {
                if (Character.isLetterOrDigit(line.charAt(k)) && !quoted.get(start + k)) {
                    return false;
                }
            }
            return true;
        }

        void reportTo(String where) {
            int start = 0;
            for (String line : text.toString().split("\n")) {
                boolean isHeld = isQuoted(start, line);
                if (!PLAIN.matcher(line).matches() || EDGE.matcher(line).find()) {
                    Check.due(where + ": a test of \"" + line + "\"", isHeld, true);
                }
                start += line.length() + 1;
            }
            for (int first = 0; first < exceptions.size(); first++) {
                for (int second = first + 1; second < exceptions.size(); second++) {
                    String order = exceptions.get(first) + " ahead of " + exceptions.get(second);
                    Check.due(where + ": a test of " + order, orders.contains(order), true);
                }
            }
        }
    }

    private static Map<String, Part> read() {
        Map<String, Part> parts = new LinkedHashMap<>();
        addPlain(parts, "What it is", Document.between("## What it is", "## The public face"));
        addPlain(parts, "Terms", Document.between("## Terms", "\n1. "));
        for (String section : Document.between("## Terms", "The constants:").split("\n(?=\\d\\. [A-Z])")) {
            if (section.matches("(?s)\\d\\. .*")) {
                addPlain(parts, "Section " + section.charAt(0), section);
            }
        }
        addPlain(parts, "The constants", "\n" + Document.between("The constants:", "## Promise 1:"));
        for (String promise : Document.between("## Promise 1:", "## Not promised").split("\n(?=## )")) {
            addPromise(parts, promise);
        }
        return parts;
    }

    private static String withoutHeading(String text) {
        return text.substring(text.indexOf('\n'));
    }

    private static void addPlain(Map<String, Part> parts, String where, String text) {
        Part part = new Part();
        for (String paragraph : withoutHeading(text).split("\n\n")) {
            for (String sentence : paragraph.replaceAll("\\s+", " ").split("(?<=[^.]\\.) (?=[A-Z(])|(?= line = )")) {
                part.add(sentence);
            }
        }
        parts.put(where, part);
    }

    private static void addPromise(Map<String, Part> parts, String text) {
        Part part = new Part();
        Matcher name = Pattern.compile("Promise \\d+").matcher(text);
        String where = name.find() ? name.group() : "";
        for (String paragraph : withoutHeading(text).split("\n\n|\n(?=- `)")) {
            String plain = paragraph.replaceAll("\\s+", " ").trim().replaceFirst("^`[^`]*\\([^`]*`: ", "");
            for (String sentence : plain.split("(?<=\\.) (?=[A-Z])")) {
                part.add(sentence);
            }
        }
        parts.put(where, part);
    }

    /** A test says which sentence it holds; the document must have it, word by word. */
    static void quote(String where, String sentence) {
        Part part = PARTS.get(where);
        Check.due(where + " says \"" + sentence + "\"", part != null && part.quote(sentence), true);
    }

    static void quoteOrder(String where, String first, String second) {
        Part part = PARTS.get(where);
        boolean stands = part != null && part.exceptions.contains(first)
                && part.exceptions.indexOf(first) < part.exceptions.indexOf(second);
        Check.due(where + " lists " + first + " ahead of " + second, stands, true);
        if (stands) {
            part.orders.add(first + " ahead of " + second);
        }
    }

    static void finish() {
        Check.due("the parts of the document", PARTS.size(), 2 + 7 + 1 + 65);
        PARTS.forEach((where, part) -> part.reportTo(where));
    }
}
