import com.sun.source.tree.MethodInvocationTree;
import com.sun.source.tree.MethodTree;
import com.sun.source.tree.NewClassTree;
import com.sun.source.tree.Tree;
import com.sun.source.util.JavacTask;
import com.sun.source.util.TreePathScanner;
import com.sun.source.util.Trees;
import java.io.IOException;
import java.nio.file.Path;
import java.util.ArrayDeque;
import java.util.Deque;
import java.util.LinkedHashMap;
import java.util.LinkedHashSet;
import java.util.Map;
import java.util.Set;
import javax.lang.model.element.Element;
import javax.lang.model.element.ExecutableElement;
import javax.tools.JavaCompiler;
import javax.tools.StandardJavaFileManager;
import javax.tools.ToolProvider;

/** Rules 8 and 11 of ../shared/LANGUAGE.md: how deep calls go, and which call themselves, as javac reads the source. */
public final class CallDepthTest {
    private static final int DEEPEST = 8;
    private static final Set<String> RECURSIVE = Set.of("isEnough", "partsEnough");

    private final Map<Element, Set<Element>> calls = new LinkedHashMap<>();
    private final Map<Element, Integer> depths = new LinkedHashMap<>();
    private final Deque<Element> open = new ArrayDeque<>();
    private int wrong;

    public static void main(String[] args) throws IOException {
        CallDepthTest test = new CallDepthTest();
        test.read(Path.of("src/main/java/BathWater.java"));
        int deepest = 0;
        for (Element method : test.calls.keySet()) {
            deepest = Math.max(deepest, test.depthOf(method));
        }
        if (deepest > DEEPEST) {
            test.fail("rule 11: calls go " + deepest + " deep");
        }
        if (test.calls.size() < 100) {
            test.fail("only " + test.calls.size() + " methods were seen");
        }
        if (test.wrong != 0) {
            System.exit(1);
        }
        System.out.println(test.calls.size() + " methods, calls go " + deepest + " deep");
    }

    private void fail(String what) {
        wrong++;
        System.out.println(what);
    }

    private void read(Path file) throws IOException {
        JavaCompiler compiler = ToolProvider.getSystemJavaCompiler();
        try (StandardJavaFileManager files = compiler.getStandardFileManager(null, null, null)) {
            JavacTask task = (JavacTask) compiler.getTask(null, files, null, null, null, files.getJavaFileObjects(file));
            Iterable<? extends Tree> units = task.parse();
            task.analyze();
            CallReader reader = new CallReader(Trees.instance(task));
            for (Tree unit : units) {
                reader.scan(unit, null);
            }
        }
    }

    private final class CallReader extends TreePathScanner<Void, Void> {
        private final Trees trees;
        private Element caller;

        CallReader(Trees trees) {
            this.trees = trees;
        }

        @Override
        public Void visitMethod(MethodTree method, Void nothing) {
            caller = trees.getElement(getCurrentPath());
            calls.put(caller, new LinkedHashSet<>());
            super.visitMethod(method, nothing);
            caller = null;
            return null;
        }

        @Override
        public Void visitMethodInvocation(MethodInvocationTree call, Void nothing) {
            note();
            return super.visitMethodInvocation(call, nothing);
        }

        @Override
        public Void visitNewClass(NewClassTree call, Void nothing) {
            note();
            return super.visitNewClass(call, nothing);
        }

        private void note() {
            Element called = trees.getElement(getCurrentPath());
            if (caller != null && called instanceof ExecutableElement) {
                calls.get(caller).add(called);
            }
        }
    }

    /** The method itself and, below it, the deepest of what it calls; a call of one that stands open is recursion. */
    private int depthOf(Element method) {
        if (open.contains(method)) {
            if (!RECURSIVE.contains(method.getSimpleName().toString())) {
                fail("rule 8: " + method + " calls itself");
            }
            return 0;
        }
        if (!calls.containsKey(method)) {
            return 0;
        }
        Integer known = depths.get(method);
        if (known != null) {
            return known;
        }
        open.push(method);
        int below = 0;
        for (Element called : calls.get(method)) {
            below = Math.max(below, depthOf(called));
        }
        open.pop();
        depths.put(method, below + 1);
        return below + 1;
    }
}
