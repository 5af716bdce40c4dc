import com.sun.source.tree.ClassTree;
import com.sun.source.tree.CompilationUnitTree;
import com.sun.source.tree.MethodInvocationTree;
import com.sun.source.tree.MethodTree;
import com.sun.source.util.JavacTask;
import com.sun.source.util.TreePath;
import com.sun.source.util.TreePathScanner;
import com.sun.source.util.Trees;
import java.io.IOException;
import java.nio.file.Path;
import java.util.ArrayList;
import java.util.HashMap;
import java.util.LinkedHashSet;
import java.util.List;
import java.util.Map;
import java.util.Set;
import java.util.TreeSet;
import javax.lang.model.element.Element;
import javax.lang.model.element.ElementKind;
import javax.tools.JavaCompiler;
import javax.tools.StandardJavaFileManager;
import javax.tools.ToolProvider;

/** What calls what, as the compiler sees it: rules 4, 8 and 11 of LANGUAGE.md. */
public final class CallsTest {
    private static final Path SOURCE = Path.of("src/main/java/WoolMarket.java");
    private static final int DEEPEST = 8;
    private static final Set<String> LIBRARY = Set.of("java.lang.Math.min", "java.lang.Math.max", "java.lang.Integer.bitCount",
        "java.lang.System.arraycopy", "java.lang.String.length", "java.lang.String.charAt", "Array.clone");

    private final Due due = new Due("CallsTest");
    private final Map<Element, Set<Element>> calls = new HashMap<>();
    private final Set<String> library = new TreeSet<>();
    private final Map<Element, Integer> depths = new HashMap<>();

    public static void main(String[] args) throws IOException {
        CallsTest test = new CallsTest();
        test.readCalls();
        test.libraryCalls();
        test.depths();
        test.due.end();
    }

    private void readCalls() throws IOException {
        JavaCompiler compiler = ToolProvider.getSystemJavaCompiler();
        try (StandardJavaFileManager files = compiler.getStandardFileManager(null, null, null)) {
            JavacTask task = (JavacTask) compiler.getTask(null, files, null, null, null, files.getJavaFileObjects(SOURCE));
            List<CompilationUnitTree> units = new ArrayList<>();
            task.parse().forEach(units::add);
            task.analyze();
            Trees trees = Trees.instance(task);
            for (CompilationUnitTree unit : units) {
                new Reader(trees).scan(new TreePath(unit), null);
            }
        }
    }

    /** Puts down each call of a method, the own ones by who calls, the library's by name. */
    private final class Reader extends TreePathScanner<Void, Void> {
        private final Trees trees;
        private Element caller;

        Reader(Trees trees) {
            this.trees = trees;
        }

        @Override
        public Void visitClass(ClassTree tree, Void none) {
            Element outer = caller;
            super.visitClass(tree, none);
            caller = outer;
            return null;
        }

        @Override
        public Void visitMethod(MethodTree tree, Void none) {
            caller = trees.getElement(getCurrentPath());
            calls.put(caller, new LinkedHashSet<>());
            return super.visitMethod(tree, none);
        }

        @Override
        public Void visitMethodInvocation(MethodInvocationTree tree, Void none) {
            Element called = trees.getElement(new TreePath(getCurrentPath(), tree.getMethodSelect()));
            boolean isOwn = called.getEnclosingElement().toString().startsWith("WoolMarket");
            boolean isConstructor = called.getKind() == ElementKind.CONSTRUCTOR;
            if (isOwn && caller != null) {
                calls.get(caller).add(called);
            } else if (!isOwn && !isConstructor) {
                library.add(called.getEnclosingElement() + "." + called.getSimpleName());
            }
            return super.visitMethodInvocation(tree, none);
        }
    }

    private void libraryCalls() {
        due.is("methods read", Math.min(90, calls.size()), 90);
        for (String name : library) {
            due.is("of the library: " + name, LIBRARY.contains(name) ? 1 : 0, 1);
        }
    }

    private void depths() {
        for (Element method : calls.keySet()) {
            int depth = depthOf(method, 0);
            due.is("how deep " + method + " goes, of eight", Math.max(DEEPEST, depth), DEEPEST);
        }
    }

    /** How many calls stand open at once where this one is the first. Recursion is told as a depth beyond all methods. */
    private int depthOf(Element method, int open) {
        if (depths.containsKey(method) || open > calls.size()) {
            return depths.getOrDefault(method, open);
        }
        int below = 0;
        for (Element called : calls.getOrDefault(method, Set.of())) {
            below = Math.max(below, depthOf(called, open + 1));
        }
        depths.put(method, below + 1);
        return below + 1;
    }
}
