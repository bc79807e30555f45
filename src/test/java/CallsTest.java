import com.sun.source.tree.ClassTree;
import com.sun.source.tree.CompilationUnitTree;
import com.sun.source.tree.MethodInvocationTree;
import com.sun.source.tree.MethodTree;
import com.sun.source.tree.NewArrayTree;
import com.sun.source.tree.NewClassTree;
import com.sun.source.util.JavacTask;
import com.sun.source.util.TreePathScanner;
import com.sun.source.util.Trees;
import java.io.IOException;
import java.nio.file.Path;
import java.util.HashSet;
import java.util.List;
import java.util.Map;
import java.util.Set;
import java.util.TreeMap;
import java.util.TreeSet;
import javax.lang.model.element.Element;
import javax.tools.JavaCompiler;
import javax.tools.StandardJavaFileManager;
import javax.tools.ToolProvider;

/** LANGUAGE.md 4, 8, 11 and 12: which method calls which, as the compiler sees it. */
public final class CallsTest {
    private static final Check CHECK = new Check();
    private static final Path SOURCE = Path.of("src/main/java/BroadNib.java");
    private static final Set<String> LIBRARY = Set.of("java.lang.Math.abs", "java.lang.Math.min", "java.lang.Math.max",
        "java.lang.Math.floorMod", "java.lang.Math.floorDiv", "java.lang.Integer.bitCount", "java.lang.System.arraycopy",
        "java.util.Arrays.fill", "java.lang.Object.<init>");
    /** The one that calls itself: its depth is the place in the word, 8 at most. */
    private static final Set<String> RECURSIVE = Set.of("BroadNib.casesOfEnough");
    private static final int DEEPEST = 8;

    private final Map<String, Set<String>> calls = new TreeMap<>();
    private final Set<String> makers = new TreeSet<>();

    public static void main(String[] args) throws IOException {
        CallsTest test = new CallsTest();
        test.read();
        test.library();
        test.depths();
        CHECK.due("only constructors and fields make objects, not " + test.makers, test.makers.isEmpty());
        CHECK.end();
    }

    private void read() throws IOException {
        JavaCompiler compiler = ToolProvider.getSystemJavaCompiler();
        try (StandardJavaFileManager files = compiler.getStandardFileManager(null, null, null)) {
            JavacTask task = (JavacTask) compiler.getTask(null, files, null, List.of("-proc:none"), null,
                files.getJavaFileObjects(SOURCE));
            Iterable<? extends CompilationUnitTree> units = task.parse();
            task.analyze();
            Trees trees = Trees.instance(task);
            for (CompilationUnitTree unit : units) {
                new Reader(trees).scan(unit, null);
            }
        }
        CHECK.due("calls were found", calls.size() > 50);
    }

    private final class Reader extends TreePathScanner<Void, Void> {
        private final Trees trees;
        private String caller;

        Reader(Trees trees) {
            this.trees = trees;
        }

        private String name(Element element) {
            return element.getEnclosingElement() + "." + element.getSimpleName();
        }

        @Override
        public Void visitClass(ClassTree tree, Void nothing) {
            String outer = caller;
            caller = null;
            super.visitClass(tree, nothing);
            caller = outer;
            return null;
        }

        @Override
        public Void visitMethod(MethodTree tree, Void nothing) {
            caller = name(trees.getElement(getCurrentPath()));
            calls.computeIfAbsent(caller, made -> new TreeSet<>());
            super.visitMethod(tree, nothing);
            caller = null;
            return null;
        }

        @Override
        public Void visitMethodInvocation(MethodInvocationTree tree, Void nothing) {
            if (caller != null) {
                calls.get(caller).add(name(trees.getElement(getCurrentPath())));
            }
            return super.visitMethodInvocation(tree, nothing);
        }

        @Override
        public Void visitNewClass(NewClassTree tree, Void nothing) {
            noteMaker();
            return super.visitNewClass(tree, nothing);
        }

        @Override
        public Void visitNewArray(NewArrayTree tree, Void nothing) {
            noteMaker();
            return super.visitNewArray(tree, nothing);
        }

        private void noteMaker() {
            if (caller != null && !caller.endsWith(".<init>")) {
                makers.add(caller);
            }
        }
    }

    private void library() {
        for (Set<String> called : calls.values()) {
            for (String name : called) {
                CHECK.due(name + " is its own or of the library's list", calls.containsKey(name) || LIBRARY.contains(name));
            }
        }
    }

    private void depths() {
        for (String method : calls.keySet()) {
            CHECK.due(method + " goes some eight deep at most", depth(method, new HashSet<>()) <= DEEPEST);
        }
    }

    /** Calls that stand open at once, itself among them; those that call themselves count once. */
    private int depth(String method, Set<String> open) {
        if (!calls.containsKey(method)) {
            return 1;
        }
        open.add(method);
        int deepest = 0;
        for (String called : calls.get(method)) {
            if (open.contains(called)) {
                CHECK.due(called + " calls itself", called.equals(method) && RECURSIVE.contains(called));
            } else {
                deepest = Math.max(deepest, depth(called, open));
            }
        }
        open.remove(method);
        return 1 + deepest;
    }
}
