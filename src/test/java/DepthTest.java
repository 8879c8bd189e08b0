import com.sun.source.tree.MethodInvocationTree;
import com.sun.source.tree.MethodTree;
import com.sun.source.tree.NewClassTree;
import com.sun.source.util.JavacTask;
import com.sun.source.util.TreePathScanner;
import com.sun.source.util.Trees;
import java.nio.file.Path;
import java.util.HashMap;
import java.util.List;
import java.util.Map;
import java.util.Set;
import java.util.TreeMap;
import java.util.TreeSet;
import javax.lang.model.element.Element;
import javax.tools.JavaCompiler;
import javax.tools.StandardJavaFileManager;
import javax.tools.ToolProvider;

/** Rule 11: no calls go more than eight deep, the library's own calls counted; none is a recursion. */
public final class DepthTest {
    private static final Map<String, Set<String>> CALLS = new TreeMap<>();
    private static final Map<String, Integer> DEPTH = new HashMap<>();

    public static void main(String[] args) throws Exception {
        Check check = new Check("DepthTest");
        readCalls();
        int deepest = 0;
        for (String method : CALLS.keySet()) {
            int depth = depth(method, 0);
            if (depth > 8 || args.length > 0) {
                System.out.println(method + " goes " + depth + " deep");
            }
            deepest = Math.max(deepest, depth);
        }
        check.due("methods were seen", CALLS.size() > 60 ? 1 : 0, 1);
        check.due("deepest is " + deepest + ": eight at most", deepest <= 8 ? 1 : 0, 1);
        check.finish();
    }

    private static void readCalls() throws Exception {
        JavaCompiler compiler = ToolProvider.getSystemJavaCompiler();
        try (StandardJavaFileManager files = compiler.getStandardFileManager(null, null, null)) {
            JavacTask task = (JavacTask) compiler.getTask(null, files, null, List.of("-proc:none"),
                    null, files.getJavaFileObjects(Path.of("src/main/java/StepAway.java")));
            Trees trees = Trees.instance(task);
            Iterable<? extends com.sun.source.tree.CompilationUnitTree> units = task.parse();
            task.analyze();
            for (com.sun.source.tree.CompilationUnitTree unit : units) {
                new Scanner(trees).scan(unit, null);
            }
        }
    }

    private static int depth(String method, int open) {
        if (open > 60) {
            return 1000;
        }
        if (!CALLS.containsKey(method)) {
            return 1;
        }
        Integer known = DEPTH.get(method);
        if (known != null) {
            return known;
        }
        int deepest = 0;
        for (String called : CALLS.get(method)) {
            deepest = Math.max(deepest, depth(called, open + 1));
        }
        DEPTH.put(method, deepest + 1);
        return deepest + 1;
    }

    private static final class Scanner extends TreePathScanner<Void, Void> {
        private final Trees trees;
        private Set<String> calls = new TreeSet<>();

        Scanner(Trees trees) {
            this.trees = trees;
        }

        private static String name(Element e) {
            return e.getEnclosingElement() + "." + e;
        }

        @Override
        public Void visitMethod(MethodTree method, Void nothing) {
            calls = CALLS.computeIfAbsent(name(trees.getElement(getCurrentPath())),
                    k -> new TreeSet<>());
            super.visitMethod(method, nothing);
            calls = new TreeSet<>();
            return null;
        }

        @Override
        public Void visitMethodInvocation(MethodInvocationTree call, Void nothing) {
            String called = name(trees.getElement(getCurrentPath()));
            if (!called.startsWith("java.lang.Object.")) {
                calls.add(called);
            }
            return super.visitMethodInvocation(call, nothing);
        }

        @Override
        public Void visitNewClass(NewClassTree made, Void nothing) {
            calls.add(name(trees.getElement(getCurrentPath())));
            return super.visitNewClass(made, nothing);
        }
    }
}
