import com.sun.source.tree.ClassTree;
import com.sun.source.tree.CompilationUnitTree;
import com.sun.source.tree.ExpressionTree;
import com.sun.source.tree.MethodInvocationTree;
import com.sun.source.tree.MethodTree;
import com.sun.source.tree.NewClassTree;
import com.sun.source.util.JavacTask;
import com.sun.source.util.TreePathScanner;
import com.sun.source.util.TreePath;
import com.sun.source.util.Trees;
import java.nio.file.Path;
import java.util.ArrayDeque;
import java.util.Deque;
import java.util.HashMap;
import java.util.List;
import java.util.Map;
import java.util.Set;
import java.util.TreeSet;
import javax.lang.model.element.Element;
import javax.lang.model.element.TypeElement;
import javax.tools.JavaCompiler;
import javax.tools.StandardJavaFileManager;
import javax.tools.ToolProvider;

/** LANGUAGE.md, rules 4 and 11: which library calls the class makes, and how deep its own calls go. */
public final class CallsTest {
    private static final int DEEPEST = 8;
    private static final Set<String> LIBRARY = Set.of("java.util.Arrays.fill", "java.lang.System.arraycopy",
        "java.lang.Math.min", "java.lang.Math.max", "java.lang.Integer.bitCount", "java.lang.Integer.numberOfTrailingZeros");

    /** By method (with its class): the methods of the class that it calls. */
    private final Map<String, Set<String>> calls = new HashMap<>();
    private final Set<String> recursive = new TreeSet<>();
    private final Deque<String> open = new ArrayDeque<>();

    public static void main(String[] args) throws Exception {
        CallsTest test = new CallsTest();
        test.read(Path.of("src/main/java/FourCubes.java"));
        Check.yes("calls are found", test.calls.size() > 100);
        for (String from : test.calls.keySet()) {
            test.descend(from);
        }
        Check.yes("what calls itself is as known: " + test.recursive, test.recursive.equals(new TreeSet<>(List.of(
            "FourCubes.Bodies.run", "FourCubes.Bodies.runFrom", "FourCubes.Law.readInside", "FourCubes.Law.readLevel",
            "FourCubes.Law.readOperand", "FourCubes.Law.readTurned", "FourCubes.Search.find", "FourCubes.Search.total",
            "FourCubes.Tower.descend"))));
        Check.finish("CallsTest");
    }

    private void read(Path source) throws Exception {
        JavaCompiler compiler = ToolProvider.getSystemJavaCompiler();
        try (StandardJavaFileManager files = compiler.getStandardFileManager(null, null, null)) {
            JavacTask task = (JavacTask) compiler.getTask(null, files, null, List.of("-proc:none"), null,
                files.getJavaFileObjects(source));
            Iterable<? extends CompilationUnitTree> units = task.parse();
            task.analyze();
            for (CompilationUnitTree unit : units) {
                new Reader(Trees.instance(task)).scan(unit, null);
            }
        }
    }

    private final class Reader extends TreePathScanner<Void, Void> {
        private final Trees trees;
        private String method = "";

        Reader(Trees trees) {
            this.trees = trees;
        }

        @Override
        public Void visitClass(ClassTree node, Void none) {
            // Rows that a class makes with its fields are made by its constructor.
            method = nameOf(trees.getElement(getCurrentPath())) + ".<init>";
            return super.visitClass(node, none);
        }

        @Override
        public Void visitMethod(MethodTree node, Void none) {
            String outside = method;
            method = memberName(trees.getElement(getCurrentPath()));
            calls.computeIfAbsent(method, m -> new TreeSet<>());
            super.visitMethod(node, none);
            method = outside;
            return null;
        }

        @Override
        public Void visitMethodInvocation(MethodInvocationTree node, Void none) {
            note(trees.getElement(new TreePath(getCurrentPath(), node.getMethodSelect())), node);
            return super.visitMethodInvocation(node, none);
        }

        @Override
        public Void visitNewClass(NewClassTree node, Void none) {
            note(trees.getElement(getCurrentPath()), node);
            return super.visitNewClass(node, none);
        }

        private void note(Element called, ExpressionTree node) {
            String name = memberName(called);
            if (name.startsWith("FourCubes")) {
                calls.computeIfAbsent(method, m -> new TreeSet<>()).add(name);
            } else {
                Check.yes(name + " is in the library that is allowed: " + node,
                    LIBRARY.contains(name) || name.equals("java.lang.Object.<init>"));
            }
        }

        private String memberName(Element member) {
            return nameOf(member.getEnclosingElement()) + "." + member.getSimpleName();
        }

        private String nameOf(Element type) {
            return ((TypeElement) type).getQualifiedName().toString();
        }
    }

    /** Goes each way down from a method, no method twice on one way, and sees how many stand open. */
    private void descend(String at) {
        if (open.contains(at)) {
            for (String m : open) {
                recursive.add(m);
                if (m.equals(at)) {
                    break;
                }
            }
            return;
        }
        open.push(at);
        Check.yes("at most " + DEEPEST + " calls deep, latest first: " + open, open.size() <= DEEPEST);
        for (String next : calls.getOrDefault(at, Set.of())) {
            descend(next);
        }
        open.pop();
    }
}
