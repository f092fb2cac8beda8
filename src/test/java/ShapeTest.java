import com.sun.source.tree.ClassTree;
import com.sun.source.tree.CompilationUnitTree;
import com.sun.source.tree.MethodInvocationTree;
import com.sun.source.tree.MethodTree;
import com.sun.source.tree.NewArrayTree;
import com.sun.source.tree.NewClassTree;
import com.sun.source.tree.Tree;
import com.sun.source.util.JavacTask;
import com.sun.source.util.TreePathScanner;
import com.sun.source.util.Trees;
import java.nio.file.Path;
import java.util.HashSet;
import java.util.List;
import java.util.Map;
import java.util.Set;
import java.util.TreeMap;
import javax.lang.model.element.Element;
import javax.lang.model.element.ElementKind;
import javax.tools.JavaCompiler;
import javax.tools.StandardJavaFileManager;
import javax.tools.ToolProvider;

/** Rules 8, 11 and 12 of LANGUAGE.md, as far as the class keeps to them by its shape: read from its syntax tree. */
public final class ShapeTest {
    private static final Due due = new Due();
    private static final int DEEPEST = 8;
    private static final int LONGEST = 60;
    private static final int MOST_CLASSES = 12;
    /** The methods of the class, each with those of the class that it calls. */
    private static final Map<String, Set<String>> calls = new TreeMap<>();
    private static int classes = 0;

    public static void main(String[] args) throws Exception {
        JavaCompiler compiler = ToolProvider.getSystemJavaCompiler();
        try (StandardJavaFileManager files = compiler.getStandardFileManager(null, null, null)) {
            JavacTask task = (JavacTask) compiler.getTask(null, files, null, List.of("-proc:none"), null,
                files.getJavaFileObjects(Path.of("src/main/java/NightGarrison.java").toFile()));
            Iterable<? extends CompilationUnitTree> units = task.parse();
            task.analyze();
            for (CompilationUnitTree unit : units) {
                new Reader(Trees.instance(task)).scan(unit, null);
            }
        }
        due.part("classes");
        due.isTrue("some twelve at most, not " + classes, classes <= MOST_CLASSES);
        recursion();
        due.part("depth");
        due.isTrue("the calls were found", calls.size() > 100);
        for (String method : calls.keySet()) {
            int deep = depth(method, new HashSet<>());
            due.isTrue(method + " goes at most eight deep, not " + deep, deep <= DEEPEST);
        }
        due.end();
    }

    private static final class Reader extends TreePathScanner<Void, Void> {
        private final Trees trees;
        private String method = "";
        private boolean making = true;

        Reader(Trees all) {
            trees = all;
        }

        @Override
        public Void visitClass(ClassTree tree, Void none) {
            classes++;
            return super.visitClass(tree, none);
        }

        @Override
        public Void visitMethod(MethodTree tree, Void none) {
            Element element = trees.getElement(getCurrentPath());
            method = name(element);
            making = element.getKind() == ElementKind.CONSTRUCTOR;
            calls.putIfAbsent(method, new HashSet<>());
            long lines = line(trees.getSourcePositions().getEndPosition(unit(), tree))
                - line(trees.getSourcePositions().getStartPosition(unit(), tree)) + 1;
            due.part("length");
            due.isTrue(method + " has some sixty lines at most, not " + lines, lines <= LONGEST);
            super.visitMethod(tree, none);
            method = "";
            making = true;
            return null;
        }

        @Override
        public Void visitMethodInvocation(MethodInvocationTree tree, Void none) {
            Element called = trees.getElement(getCurrentPath());
            if (!method.isEmpty() && called != null && trees.getTree(called) != null) {
                calls.get(method).add(name(called));
            }
            return super.visitMethodInvocation(tree, none);
        }

        @Override
        public Void visitNewClass(NewClassTree tree, Void none) {
            made(tree);
            return super.visitNewClass(tree, none);
        }

        @Override
        public Void visitNewArray(NewArrayTree tree, Void none) {
            made(tree);
            return super.visitNewArray(tree, none);
        }

        private void made(Tree tree) {
            due.part("objects");
            due.isTrue(tree + " in " + method + " is made with the object, not by a call", making);
        }

        private CompilationUnitTree unit() {
            return getCurrentPath().getCompilationUnit();
        }

        private long line(long position) {
            return unit().getLineMap().getLineNumber(position);
        }

        private static String name(Element element) {
            return element.getEnclosingElement() + "." + element;
        }
    }

    private static boolean reaches(String from, String to) {
        Set<String> seen = new HashSet<>();
        return walk(from, to, seen);
    }

    private static boolean walk(String from, String to, Set<String> seen) {
        for (String next : calls.getOrDefault(from, Set.of())) {
            if (next.equals(to) || seen.add(next) && walk(next, to, seen)) {
                return true;
            }
        }
        return false;
    }

    /** Recursion is known by name: whoever adds one must carry a depth that ends it. */
    private static void recursion() {
        due.part("recursion");
        Set<String> known = Set.of("readLevel", "readOperand", "readInner", "run", "runTop", "runUnder", "outcome", "go", "canCut");
        for (String method : calls.keySet()) {
            String simple = method.replaceAll("\\(.*", "").replaceAll(".*\\.", "");
            due.isTrue(method + " calls itself only if it is known to", !reaches(method, method) || known.contains(simple));
        }
    }

    /** Calls among methods that call one another are one level. */
    private static int depth(String method, Set<String> above) {
        int deepest = 0;
        above.add(method);
        for (String next : calls.getOrDefault(method, Set.of())) {
            if (!above.contains(next)) {
                boolean recursion = reaches(next, method);
                deepest = Math.max(deepest, depth(next, above) - (recursion ? 1 : 0));
            }
        }
        above.remove(method);
        return deepest + 1;
    }
}
