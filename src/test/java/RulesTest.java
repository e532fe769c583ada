import com.sun.source.tree.CatchTree;
import com.sun.source.tree.CompilationUnitTree;
import com.sun.source.tree.LambdaExpressionTree;
import com.sun.source.tree.MemberReferenceTree;
import com.sun.source.tree.MethodInvocationTree;
import com.sun.source.tree.MethodTree;
import com.sun.source.tree.NewClassTree;
import com.sun.source.tree.Tree;
import com.sun.source.util.JavacTask;
import com.sun.source.util.TreePath;
import com.sun.source.util.TreePathScanner;
import com.sun.source.util.Trees;
import java.io.IOException;
import java.nio.file.Path;
import java.util.ArrayList;
import java.util.HashMap;
import java.util.HashSet;
import java.util.List;
import java.util.Map;
import java.util.Set;
import java.util.TreeSet;
import javax.lang.model.element.Element;
import javax.lang.model.element.ElementKind;
import javax.lang.model.element.Modifier;
import javax.tools.JavaCompiler;
import javax.tools.JavaFileObject;
import javax.tools.StandardJavaFileManager;
import javax.tools.ToolProvider;

/** The rules of LANGUAGE.md about calls, as the compiler reads the class: which there are, and how deep they go. */
public final class RulesTest {
    private static final Path SOURCE = Path.of("src/main/java/FreshDisks.java");
    private static final int DEEPEST = 8;
    /** What rule 4 names, as far as the class uses it. */
    private static final Set<String> LIBRARY = Set.of("java.lang.Math.max", "java.lang.Math.min", "java.lang.Math.floorDiv",
        "java.util.Arrays.fill", "java.util.Arrays.copyOf", "java.lang.System.arraycopy", "java.lang.Object.<init>");
    private static final Set<String> EXCEPTIONS = Set.of("java.lang.IllegalStateException.<init>",
        "java.lang.IllegalArgumentException.<init>", "java.lang.IndexOutOfBoundsException.<init>");
    private static final Checks CHECKS = new Checks();

    /** Which methods each method calls; those of the library are told by name. */
    private final Map<Element, Set<Element>> calls = new HashMap<>();
    private final Set<String> library = new TreeSet<>();
    private int forbidden = 0;

    public static void main(String[] args) throws IOException {
        RulesTest test = new RulesTest();
        test.read();
        test.checkLibrary();
        test.checkDepth();
        CHECKS.end();
    }

    private void read() throws IOException {
        JavaCompiler compiler = ToolProvider.getSystemJavaCompiler();
        try (StandardJavaFileManager files = compiler.getStandardFileManager(null, null, null)) {
            Iterable<? extends JavaFileObject> units = files.getJavaFileObjects(SOURCE);
            JavacTask task = (JavacTask) compiler.getTask(null, files, null, List.of("-proc:none"), null, units);
            Iterable<? extends CompilationUnitTree> trees = task.parse();
            task.analyze();
            for (CompilationUnitTree unit : trees) {
                new CallScanner(Trees.instance(task)).scan(unit, null);
            }
        }
    }

    private final class CallScanner extends TreePathScanner<Void, Void> {
        private final Trees trees;
        private Element caller;

        CallScanner(Trees trees) {
            this.trees = trees;
        }

        @Override
        public Void visitMethod(MethodTree tree, Void nothing) {
            Element outer = caller;
            caller = trees.getElement(getCurrentPath());
            calls.put(caller, new HashSet<>());
            super.visitMethod(tree, nothing);
            caller = outer;
            return null;
        }

        @Override
        public Void visitMethodInvocation(MethodInvocationTree tree, Void nothing) {
            note(tree.getMethodSelect());
            return super.visitMethodInvocation(tree, nothing);
        }

        @Override
        public Void visitNewClass(NewClassTree tree, Void nothing) {
            note(tree);
            return super.visitNewClass(tree, nothing);
        }

        @Override
        public Void visitLambdaExpression(LambdaExpressionTree tree, Void nothing) {
            forbidden++;
            return super.visitLambdaExpression(tree, nothing);
        }

        @Override
        public Void visitMemberReference(MemberReferenceTree tree, Void nothing) {
            forbidden++;
            return super.visitMemberReference(tree, nothing);
        }

        @Override
        public Void visitCatch(CatchTree tree, Void nothing) {
            forbidden++;
            return super.visitCatch(tree, nothing);
        }

        private void note(Tree called) {
            Element element = trees.getElement(new TreePath(getCurrentPath(), called));
            // A field's initialiser belongs to the constructor, which is a way of one call at most.
            if (element != null && caller != null) {
                calls.get(caller).add(element);
            }
            if (element != null && !element.getEnclosingElement().toString().startsWith("FreshDisks")) {
                library.add(element.getEnclosingElement() + "." + element.getSimpleName());
            }
        }
    }

    private void checkLibrary() {
        CHECKS.due("lambdas, method references and catches", forbidden, 0);
        for (String name : library) {
            CHECKS.isTrue(name + " is allowed", LIBRARY.contains(name) || EXCEPTIONS.contains(name));
        }
        CHECKS.isTrue("calls of the library are found: " + library, library.size() > 5);
    }

    private void checkDepth() {
        int deepest = 0;
        for (Element method : calls.keySet()) {
            if (method.getModifiers().contains(Modifier.PUBLIC)) {
                int depth = depth(method, new ArrayList<>());
                CHECKS.isTrue(method + " goes at most " + DEEPEST + " calls deep, it goes " + depth, depth <= DEEPEST);
                deepest = Math.max(deepest, depth);
            }
        }
        CHECKS.isTrue("calls are found", deepest > 3);
        System.out.println("calls go " + deepest + " deep");
    }

    /** The library's methods count as well, the making of exceptions does not. */
    private int depth(Element method, List<Element> open) {
        if (open.contains(method)) {
            CHECKS.isTrue(method + " calls itself by " + open, false);
            return 0;
        }
        open.add(method);
        int below = 0;
        for (Element called : calls.getOrDefault(method, Set.of())) {
            boolean isException = called.getKind() == ElementKind.CONSTRUCTOR
                && called.getEnclosingElement().toString().endsWith("Exception");
            below = Math.max(below, isException ? 0 : depth(called, open));
        }
        open.remove(method);
        return below + 1;
    }
}
