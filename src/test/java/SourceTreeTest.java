import com.sun.source.tree.ClassTree;
import com.sun.source.tree.CompilationUnitTree;
import com.sun.source.tree.MethodInvocationTree;
import com.sun.source.tree.MethodTree;
import com.sun.source.tree.NewArrayTree;
import com.sun.source.tree.NewClassTree;
import com.sun.source.tree.Tree;
import com.sun.source.tree.VariableTree;
import com.sun.source.util.JavacTask;
import com.sun.source.util.TreeScanner;
import java.io.IOException;
import java.nio.file.Path;
import java.util.ArrayDeque;
import java.util.Deque;
import java.util.Map;
import java.util.Set;
import java.util.TreeMap;
import java.util.TreeSet;
import javax.lang.model.element.Modifier;
import javax.tools.JavaCompiler;
import javax.tools.StandardJavaFileManager;
import javax.tools.ToolProvider;

/** The rules of LANGUAGE.md on sizes, calls and what is made, as the compiler's tree of the class shows them. */
public final class SourceTreeTest {
    private static final int CLASSES = 12;
    private static final int FIELDS = 20;
    private static final int PARAMETERS = 7;
    private static final int DEPTH = 8;

    /** What each method calls; methods of one name count as one, which can only make the ways longer. */
    private static final Map<String, Set<String>> CALLS = new TreeMap<>();
    private static final Map<String, Integer> FIELDS_OF = new TreeMap<>();

    public static void main(String[] args) throws IOException {
        JavaCompiler compiler = ToolProvider.getSystemJavaCompiler();
        try (StandardJavaFileManager files = compiler.getStandardFileManager(null, null, null)) {
            JavacTask task = (JavacTask) compiler.getTask(null, files, null, null, null,
                    files.getJavaFileObjects(Path.of("src/main/java/CopyDebts.java")));
            for (CompilationUnitTree unit : task.parse()) {
                new Walk().scan(unit, null);
            }
        }
        Check.due("11: at most " + CLASSES + " classes", FIELDS_OF.size() <= CLASSES, true);
        FIELDS_OF.forEach((name, count) -> Check.due("11: the fields of " + name, count <= FIELDS, true));
        for (String method : CALLS.keySet()) {
            int depth = depthOf(method, new ArrayDeque<>());
            Check.due("11: calls from " + method + " on go " + depth + " deep", depth <= DEPTH, true);
        }
        Check.due("the methods that were seen", CALLS.size() > 64, true);
        Check.finish();
    }

    /** How many calls stand open at once, the method's own and those into the library among them. */
    private static int depthOf(String method, Deque<String> open) {
        Check.due("8: " + method + " is called by itself, through " + open, open.contains(method), false);
        if (open.contains(method)) {
            return 0;
        }
        open.push(method);
        int deepest = 0;
        for (String called : CALLS.getOrDefault(method, Set.of())) {
            deepest = Math.max(deepest, depthOf(called, open));
        }
        open.pop();
        return 1 + deepest;
    }

    private static final class Walk extends TreeScanner<Void, Void> {
        private String inside = "";
        private boolean isConstructor;
        private boolean makes;

        @Override
        public Void visitClass(ClassTree type, Void none) {
            int fields = 0;
            for (Tree member : type.getMembers()) {
                boolean isField = member instanceof VariableTree variable
                        && !variable.getModifiers().getFlags().contains(Modifier.STATIC);
                fields += isField ? 1 : 0;
                Check.due("5: no initialiser block in " + type.getSimpleName(), member.getKind() == Tree.Kind.BLOCK,
                        false);
            }
            FIELDS_OF.put(type.getSimpleName().toString(), fields);
            return super.visitClass(type, none);
        }

        @Override
        public Void visitMethod(MethodTree method, Void none) {
            inside = method.getName().toString();
            isConstructor = method.getReturnType() == null;
            makes = true;
            CALLS.computeIfAbsent(inside, name -> new TreeSet<>());
            Check.due("11: the parameters of " + inside, method.getParameters().size() <= PARAMETERS, true);
            super.visitMethod(method, none);
            makes = false;
            return null;
        }

        @Override
        public Void visitMethodInvocation(MethodInvocationTree call, Void none) {
            String called = call.getMethodSelect().toString();
            boolean isOfTheLibrary = called.matches("(Arrays|Math|System)\\..*");
            if (!called.equals("super")) {
                CALLS.get(inside).add(isOfTheLibrary ? called : called.substring(called.lastIndexOf('.') + 1));
            }
            return super.visitMethodInvocation(call, none);
        }

        /** The room of a run is kept by making nothing in a call but the exception that it throws. */
        @Override
        public Void visitNewClass(NewClassTree made, Void none) {
            boolean isThrown = made.getIdentifier().toString().endsWith("Exception");
            Check.due("12: " + inside + " makes " + made, makes && !isConstructor && !isThrown, false);
            Check.due("6: " + inside + " throws in a constructor", makes && isConstructor && isThrown, false);
            return super.visitNewClass(made, none);
        }

        @Override
        public Void visitNewArray(NewArrayTree made, Void none) {
            Check.due("12: " + inside + " makes " + made, makes && !isConstructor, false);
            return super.visitNewArray(made, none);
        }
    }
}
