import java.lang.reflect.Method;
import java.lang.reflect.Modifier;
import java.nio.file.Files;
import java.nio.file.Path;
import java.util.ArrayList;
import java.util.List;
import java.util.Set;
import java.util.TreeSet;
import java.util.regex.Matcher;
import java.util.regex.Pattern;

/** The rules of LANGUAGE.md that can be seen in the text of the class. */
public final class SourceRulesTest {
    private static final List<String> UNUSED_WORDS = List.of("package", "try", "catch", "finally", "synchronized",
            "assert", "throws Exception", "protected", "null", "Object", "Random", "System.out", "System.in",
            "currentTimeMillis", "nanoTime", "Thread", "toString", "equals", "hashCode");
    private static final Set<String> LIBRARY = Set.of("Arrays.fill", "System.arraycopy", "Math.max", "Math.min");

    public static void main(String[] args) throws Exception {
        String source = Files.readString(Path.of("src/main/java/CopyDebts.java"));
        String code = source.replaceAll("(?s)/\\*.*?\\*/", "").replaceAll("//[^\n]*", "");
        String bare = code.replaceAll("\"[^\"\n]*\"", "\"\"");
        Check.due("3: signs 1 to 127", source.chars().allMatch(sign -> sign > 0 && sign < 128), true);
        for (String word : UNUSED_WORDS) {
            Check.due("the word " + word, Pattern.compile("\\b" + Pattern.quote(word) + "\\b").matcher(bare).find(),
                    false);
        }
        Check.due("2: no lambda", bare.contains("->"), false);
        Check.due("2: no method reference", bare.contains("::"), false);
        Check.due("10: no text joined by +", Pattern.compile("\" *\\+|\\+ *\"").matcher(bare).find(), false);
        Check.due("4: imports", found(bare, "import [^;]*"), "import java.util.Arrays");
        Check.due("6: what is thrown", found(bare, "throw new \\w+\\(\"\"\\)"),
                "throw new IllegalArgumentException(\"\"), throw new IllegalStateException(\"\"), "
                        + "throw new IndexOutOfBoundsException(\"\")");
        Check.due("6: throw is always throw new", found(bare, "throw (?!new )"), "");
        Check.due("5: static fields", found(bare, "static (?!final)[^(;{]*;"), "");
        Check.due("4: the library", LIBRARY.containsAll(calls(bare)), true);
        privateMethodsHaveNamesOfTheirOwn();
        methodsAreShort(source);
        Check.finish();
    }

    private static String found(String text, String pattern) {
        Set<String> found = new TreeSet<>();
        Matcher matcher = Pattern.compile(pattern).matcher(text);
        while (matcher.find()) {
            found.add(matcher.group());
        }
        return String.join(", ", found);
    }

    /** What is called by the name of a class. */
    private static Set<String> calls(String text) {
        Set<String> calls = new TreeSet<>();
        Matcher matcher = Pattern.compile("\\b[A-Z]\\w*\\.\\w+(?=\\()").matcher(text);
        while (matcher.find()) {
            calls.add(matcher.group());
        }
        return calls;
    }

    /** Those of the classes inside are private, too. */
    private static void privateMethodsHaveNamesOfTheirOwn() {
        Set<String> names = new TreeSet<>();
        for (Method method : CopyDebts.class.getDeclaredMethods()) {
            if (Modifier.isPublic(method.getModifiers())) {
                names.add(method.getName());
            }
        }
        List<Method> inside = new ArrayList<>(List.of(CopyDebts.class.getDeclaredMethods()));
        for (Class<?> nested : CopyDebts.class.getDeclaredClasses()) {
            Check.due("1: " + nested + " is static and not public", Modifier.isStatic(nested.getModifiers())
                    && !Modifier.isPublic(nested.getModifiers()) && !Modifier.isProtected(nested.getModifiers()), true);
            inside.addAll(List.of(nested.getDeclaredMethods()));
        }
        for (Method method : inside) {
            boolean isOfTheFace = Modifier.isPublic(method.getModifiers());
            Check.due("1: the name of " + method, !isOfTheFace && names.contains(method.getName()), false);
        }
    }

    private static void methodsAreShort(String source) {
        List<String> lines = source.lines().toList();
        int start = 0;
        for (int k = 0; k < lines.size(); k++) {
            String line = lines.get(k);
            boolean opens = line.matches(" {4}( {4})?[^ ].*\\{") && !line.contains(" class ");
            if (opens) {
                start = k;
            }
            if (line.matches(" {4}( {4})?\\}")) {
                Check.due("11: lines of the method that ends at " + (k + 1), k - start > 60, false);
                start = k;
            }
        }
    }
}
