import com.sun.source.tree.ClassTree;
import com.sun.source.tree.CompilationUnitTree;
import com.sun.source.tree.MethodInvocationTree;
import com.sun.source.tree.MethodTree;
import com.sun.source.tree.NewClassTree;
import com.sun.source.util.JavacTask;
import com.sun.source.util.TreePathScanner;
import com.sun.source.util.Trees;
import java.io.File;
import java.io.IOException;
import java.util.HashMap;
import java.util.Map;
import java.util.Set;
import java.util.TreeSet;
import javax.lang.model.element.Element;
import javax.tools.JavaCompiler;
import javax.tools.StandardJavaFileManager;
import javax.tools.ToolProvider;

/** LANGUAGE.md's rule 11: calls go at most eight deep, the library's own call counted as one; and no recursion is there. */
public final class DepthTest {
    private static final int DEEPEST = 8;

    private final Map<String, Set<String>> calls = new HashMap<>();
    private final Map<String, Integer> depths = new HashMap<>();

    public static void main(String[] args) throws IOException {
        DepthTest test = new DepthTest();
        test.readCalls(new File("src/main/java/StripCloth.java"));
        Check.due("the source has methods", test.calls.size() > 20, true);
        for (String method : new TreeSet<>(test.calls.keySet())) {
            Check.due("depth of " + method + ": " + test.depth(method, 0) + ", at most " + DEEPEST,
                    test.depth(method, 0) <= DEEPEST, true);
        }
        Check.end();
    }

    private void readCalls(File source) throws IOException {
        JavaCompiler compiler = ToolProvider.getSystemJavaCompiler();
        try (StandardJavaFileManager files = compiler.getStandardFileManager(null, null, null)) {
            JavacTask task = (JavacTask) compiler.getTask(null, files, null, null, null, files.getJavaFileObjects(source));
            Iterable<? extends CompilationUnitTree> units = task.parse();
            task.analyze();
            for (CompilationUnitTree unit : units) {
                new CallScanner(Trees.instance(task)).scan(unit, null);
            }
        }
    }

    /** What is deeper than any call may be counts as endless. */
    private int depth(String method, int open) {
        if (open > 4 * DEEPEST) {
            return open;
        }
        Integer known = depths.get(method);
        if (known != null) {
            return known;
        }
        int deepest = 0;
        for (String called : calls.getOrDefault(method, Set.of())) {
            deepest = Math.max(deepest, depth(called, open + 1));
        }
        depths.put(method, deepest + 1);
        return deepest + 1;
    }

    private final class CallScanner extends TreePathScanner<Void, Void> {
        private final Trees trees;
        private String caller = "";

        CallScanner(Trees trees) {
            this.trees = trees;
        }

        private String here() {
            Element element = trees.getElement(getCurrentPath());
            return element.getEnclosingElement() + "." + element;
        }

        @Override
        public Void visitClass(ClassTree tree, Void nothing) {
            String kept = caller;
            super.visitClass(tree, nothing);
            caller = kept;
            return null;
        }

        @Override
        public Void visitMethod(MethodTree tree, Void nothing) {
            caller = here();
            calls.put(caller, new TreeSet<>());
            return super.visitMethod(tree, nothing);
        }

        @Override
        public Void visitMethodInvocation(MethodInvocationTree tree, Void nothing) {
            // javac puts super() at the head of a constructor by itself
            if (!here().startsWith("java.lang.Object.")) {
                calls.get(caller).add(here());
            }
            return super.visitMethodInvocation(tree, nothing);
        }

        @Override
        public Void visitNewClass(NewClassTree tree, Void nothing) {
            calls.get(caller).add(here());
            return super.visitNewClass(tree, nothing);
        }
    }
}
