import com.sun.source.tree.CompilationUnitTree;
import com.sun.source.tree.ExpressionTree;
import com.sun.source.tree.MethodInvocationTree;
import com.sun.source.tree.MethodTree;
import com.sun.source.tree.NewClassTree;
import com.sun.source.util.JavacTask;
import com.sun.source.util.TreePath;
import com.sun.source.util.TreePathScanner;
import com.sun.source.util.Trees;
import java.io.IOException;
import java.nio.file.Path;
import java.util.ArrayList;
import java.util.LinkedHashMap;
import java.util.LinkedHashSet;
import java.util.List;
import java.util.Map;
import java.util.Set;
import javax.lang.model.element.Element;
import javax.lang.model.element.Modifier;
import javax.tools.JavaCompiler;
import javax.tools.StandardJavaFileManager;
import javax.tools.ToolProvider;

/**
 * Rules 8 and 11 of ../shared/LANGUAGE.md: from each method of the face on, calls go at most eight deep, those of the
 * library included; what calls itself does so directly, is private and static, and carries its depth as an argument.
 * Its argument is the folder of the project (the present one without it).
 */
public final class DepthTest {
    private static final Due DUE = new Due("DepthTest");
    private static final int DEEPEST = 8;

    private static final Map<Element, Set<Element>> CALLS = new LinkedHashMap<>();
    private static final Map<Element, MethodTree> TREES = new LinkedHashMap<>();

    public static void main(String[] args) throws IOException {
        read(Path.of(args.length > 0 ? args[0] : ".", "src", "main", "java", "FreeShelf.java"));
        int face = 0;
        for (Element method : TREES.keySet()) {
            if (CALLS.get(method).contains(method)) recursion(method);
            if (!method.getModifiers().contains(Modifier.PUBLIC)) continue;
            face++;
            List<Element> chain = longest(method, new ArrayList<>());
            DUE.is("rule 11: at most " + DEEPEST + " deep, " + chain, chain.size() <= DEEPEST ? 1 : 0, 1);
        }
        DUE.is("the methods of the face and its constructor", face, 30);
        DUE.close();
    }

    private static void read(Path file) throws IOException {
        JavaCompiler compiler = ToolProvider.getSystemJavaCompiler();
        try (StandardJavaFileManager files = compiler.getStandardFileManager(null, null, null)) {
            JavacTask task = (JavacTask) compiler.getTask(null, files, null, List.of("-proc:none"), null,
                files.getJavaFileObjects(file));
            Iterable<? extends CompilationUnitTree> units = task.parse();
            task.analyze();
            Reader reader = new Reader(Trees.instance(task));
            for (CompilationUnitTree unit : units) reader.scan(unit, null);
        }
    }

    /** Finds which methods are called by which. */
    private static final class Reader extends TreePathScanner<Void, Void> {
        private final Trees trees;
        private Element present = null;

        Reader(Trees trees) {
            this.trees = trees;
        }

        @Override
        public Void visitMethod(MethodTree tree, Void none) {
            present = trees.getElement(getCurrentPath());
            CALLS.put(present, new LinkedHashSet<>());
            TREES.put(present, tree);
            super.visitMethod(tree, none);
            present = null;
            return null;
        }

        @Override
        public Void visitMethodInvocation(MethodInvocationTree tree, Void none) {
            ExpressionTree called = tree.getMethodSelect();
            note(trees.getElement(new TreePath(getCurrentPath(), called)));
            return super.visitMethodInvocation(tree, none);
        }

        @Override
        public Void visitNewClass(NewClassTree tree, Void none) {
            note(trees.getElement(getCurrentPath()));
            return super.visitNewClass(tree, none);
        }

        private void note(Element called) {
            if (present != null) CALLS.get(present).add(called);
        }
    }

    /** The longest chain of calls that begins with a method, in which no method stands twice. */
    private static List<Element> longest(Element method, List<Element> before) {
        List<Element> until = new ArrayList<>(before);
        until.add(method);
        List<Element> best = until;
        for (Element called : CALLS.getOrDefault(method, Set.of())) {
            if (called == method) continue;
            DUE.is("rule 8: no method calls itself through others, " + called, until.contains(called) ? 1 : 0, 0);
            if (until.contains(called)) continue;
            List<Element> chain = longest(called, until);
            if (chain.size() > best.size()) best = chain;
        }
        return best;
    }

    private static void recursion(Element method) {
        boolean closed = method.getModifiers().contains(Modifier.PRIVATE);
        DUE.is("rule 8: private and static, " + method, closed && method.getModifiers().contains(Modifier.STATIC) ? 1 : 0, 1);
        boolean counted = TREES.get(method).getParameters().stream().anyMatch(p -> p.getName().contentEquals("depth"));
        DUE.is("rule 8: its depth is an argument, " + method, counted ? 1 : 0, 1);
    }
}
