import java.lang.reflect.Constructor;
import java.lang.reflect.Field;
import java.lang.reflect.InvocationTargetException;
import java.lang.reflect.Method;
import java.lang.reflect.Modifier;
import java.nio.file.Files;
import java.nio.file.Path;
import java.util.Arrays;
import java.util.List;
import java.util.Set;
import java.util.TreeSet;

/** The public face is the document's, and every call of it that needs a memory says so first. */
public final class FaceTest {
    private static final Set<String> WITHOUT_MEMORY = Set.of("append", "load", "parseError", "errorPosition",
            "buffered", "size", "events", "textByte", "undoable");

    public static void main(String[] args) throws Exception {
        theFaceIsThatOfTheDocument();
        theSourceDeclaresItWordByWord();
        callsNeedAMemoryFirst(new CopyDebts());
        CopyDebts failed = new CopyDebts();
        Check.noArgument("load of half a text", () -> Check.load(failed, "memory 4"));
        callsNeedAMemoryFirst(failed);
        Check.finish();
    }

    private static void theFaceIsThatOfTheDocument() throws Exception {
        Set<String> want = new TreeSet<>();
        for (String line : Document.face()) {
            want.add(plain(line));
        }
        Set<String> got = new TreeSet<>();
        for (Field field : CopyDebts.class.getDeclaredFields()) {
            if (!Modifier.isPrivate(field.getModifiers())) {
                got.add("public static final int " + field.getName() + " = " + field.getInt(null));
            }
        }
        for (Constructor<?> made : CopyDebts.class.getDeclaredConstructors()) {
            got.add("public CopyDebts(" + types(made.getParameterTypes()) + ")");
        }
        for (Method method : CopyDebts.class.getDeclaredMethods()) {
            if (!Modifier.isPrivate(method.getModifiers())) {
                got.add(told(method));
            }
        }
        Check.due("the face", String.join("\n", got), String.join("\n", want));
        Check.due("the class is public and final", CopyDebts.class.getModifiers(),
                Modifier.PUBLIC | Modifier.FINAL);
    }

    /** With the names of the parameters, which the compiled class has lost. */
    private static void theSourceDeclaresItWordByWord() throws Exception {
        String source = Files.readString(Path.of("src/main/java/CopyDebts.java")).replaceAll("\\s+", " ");
        for (String line : Document.face()) {
            boolean isConstant = line.contains(" = ");
            String declared = isConstant ? line : line.replace(";", " {");
            Check.due("the source declares " + line, source.contains(" " + declared + " "), true);
        }
    }

    /** A line of the document without the names of the parameters. */
    private static String plain(String line) {
        return line.trim().replace(";", "").replaceAll("(int|boolean|long) \\w+([,)])", "$1$2");
    }

    private static String told(Method method) {
        String told = Modifier.toString(method.getModifiers()) + " " + method.getReturnType() + " "
                + method.getName() + "(" + types(method.getParameterTypes()) + ")";
        List<String> thrown = Arrays.stream(method.getExceptionTypes()).map(Class::getSimpleName).toList();
        return thrown.isEmpty() ? told : told + " throws " + String.join(", ", thrown);
    }

    private static String types(Class<?>[] types) {
        return String.join(", ", Arrays.stream(types).map(Class::getSimpleName).toList());
    }

    private static void callsNeedAMemoryFirst(CopyDebts x) throws Exception {
        for (Method method : CopyDebts.class.getDeclaredMethods()) {
            boolean asks = Modifier.isPublic(method.getModifiers()) && !WITHOUT_MEMORY.contains(method.getName());
            if (!asks) {
                continue;
            }
            // A slot that does not exist comes ahead of what is saved there.
            int number = method.getName().equals("restore") ? 0 : -1;
            Check.due(method.getName() + " without a memory", thrownBy(x, method, number), "IllegalStateException");
        }
        Check.noIndex("restore(-1) without a memory", () -> x.restore(-1));
        Check.noIndex("restore(2) without a memory", () -> x.restore(2));
        Check.due("size() without a memory", x.size(), 0);
        Check.due("events() without a memory", x.events(), 0);
        Check.due("undoable() without a memory", x.undoable(), 0);
        Check.noIndex("textByte(0) before the first text", () -> x.textByte(0));
    }

    private static String thrownBy(CopyDebts x, Method method, int number) throws Exception {
        Class<?>[] types = method.getParameterTypes();
        Object[] arguments = new Object[types.length];
        for (int k = 0; k < types.length; k++) {
            arguments[k] = types[k] == int.class ? (Object) number : (Object) false;
        }
        try {
            return "" + method.invoke(x, arguments);
        } catch (InvocationTargetException e) {
            return e.getCause().getClass().getSimpleName();
        }
    }
}
