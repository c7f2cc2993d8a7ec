import com.sun.source.tree.CompilationUnitTree;
import com.sun.source.tree.MethodInvocationTree;
import com.sun.source.tree.MethodTree;
import com.sun.source.tree.NewClassTree;
import com.sun.source.util.JavacTask;
import com.sun.source.util.TreePathScanner;
import com.sun.source.util.Trees;
import java.nio.file.Path;
import java.util.ArrayList;
import java.util.LinkedHashMap;
import java.util.LinkedHashSet;
import java.util.List;
import java.util.Map;
import java.util.Set;
import javax.lang.model.element.Element;
import javax.tools.JavaCompiler;
import javax.tools.StandardJavaFileManager;
import javax.tools.ToolProvider;

/** LANGUAGE.md, rules 8 and 11: how deep the calls of the class go, and which of them come back to themselves. */
public final class CallDepthTest {
    private static final int DEEPEST = 8;
    // What does a routine's steps, and so comes back to itself: by the document's limits of blocks and calls.
    private static final Set<String> RECURSION = Set.of("doSteps", "doStep", "doTry", "doFinally", "doLoop", "doPart", "doCall");

    private final Map<Element, Set<Element>> calls = new LinkedHashMap<>();
    private List<Element> longest = List.of();

    public static void main(String[] args) throws Exception {
        Checks checks = new Checks("depth of calls");
        CallDepthTest test = new CallDepthTest();
        test.read(Path.of("src/main/java/GaugeBench.java"));
        for (Element method : test.calls.keySet()) {
            boolean comesBack = test.reached(method).contains(method);
            checks.due(method + " comes back to itself", comesBack, RECURSION.contains(method.getSimpleName().toString()));
        }
        for (Element method : test.calls.keySet()) {
            test.longest = List.of();
            test.follow(method, new ArrayList<>());
            checks.due("at most " + DEEPEST + " deep: " + test.longest, test.longest.size() <= DEEPEST, true);
        }
        checks.end();
    }

    /** What each method and constructor of the file calls of the others. */
    private void read(Path file) throws Exception {
        JavaCompiler compiler = ToolProvider.getSystemJavaCompiler();
        try (StandardJavaFileManager files = compiler.getStandardFileManager(null, null, null)) {
            JavacTask task = (JavacTask) compiler.getTask(null, files, null, List.of("-proc:none"), null, files.getJavaFileObjects(file));
            Iterable<? extends CompilationUnitTree> units = task.parse();
            task.analyze();
            Scanner scanner = new Scanner(Trees.instance(task));
            for (CompilationUnitTree unit : units) {
                scanner.scan(unit, null);
            }
        }
        for (Set<Element> called : calls.values()) {
            called.retainAll(calls.keySet());
        }
    }

    private final class Scanner extends TreePathScanner<Void, Void> {
        private final Trees trees;
        private Element within;

        Scanner(Trees trees) {
            this.trees = trees;
        }

        @Override
        public Void visitMethod(MethodTree method, Void none) {
            within = trees.getElement(getCurrentPath());
            calls.put(within, new LinkedHashSet<>());
            return super.visitMethod(method, none);
        }

        @Override
        public Void visitMethodInvocation(MethodInvocationTree call, Void none) {
            add();
            return super.visitMethodInvocation(call, none);
        }

        @Override
        public Void visitNewClass(NewClassTree made, Void none) {
            add();
            return super.visitNewClass(made, none);
        }

        private void add() {
            if (within != null) {
                calls.get(within).add(trees.getElement(getCurrentPath()));
            }
        }
    }

    private Set<Element> reached(Element from) {
        Set<Element> reached = new LinkedHashSet<>();
        List<Element> next = new ArrayList<>(calls.get(from));
        while (!next.isEmpty()) {
            Element one = next.remove(next.size() - 1);
            if (reached.add(one)) {
                next.addAll(calls.get(one));
            }
        }
        return reached;
    }

    /** The longest way that never comes to the same method twice, nor to doSteps by another one of the recursion. */
    private void follow(Element at, List<Element> way) {
        way.add(at);
        if (way.size() > longest.size()) {
            longest = List.copyOf(way);
        }
        for (Element called : calls.get(at)) {
            boolean isAgain = called.getSimpleName().contentEquals("doSteps") && RECURSION.contains(at.getSimpleName().toString());
            if (!isAgain && !way.contains(called)) {
                follow(called, way);
            }
        }
        way.remove(way.size() - 1);
    }
}
