import com.sun.source.tree.ClassTree;
import com.sun.source.tree.MethodInvocationTree;
import com.sun.source.tree.MethodTree;
import com.sun.source.tree.NewArrayTree;
import com.sun.source.tree.NewClassTree;
import com.sun.source.tree.Tree;
import com.sun.source.util.JavacTask;
import com.sun.source.util.TreePathScanner;
import com.sun.source.util.Trees;
import java.io.IOException;
import java.nio.file.Path;
import java.util.ArrayDeque;
import java.util.Deque;
import java.util.LinkedHashMap;
import java.util.LinkedHashSet;
import java.util.List;
import java.util.Map;
import java.util.Set;
import javax.lang.model.element.Element;
import javax.lang.model.element.ExecutableElement;
import javax.lang.model.element.Modifier;
import javax.tools.JavaCompiler;
import javax.tools.StandardJavaFileManager;
import javax.tools.ToolProvider;

/**
 * Those rules of LANGUAGE.md that are seen from which method calls which: how deep calls go (11), which call themselves
 * (8), and where objects are made (12). The calls are those that the compiler finds in the file.
 */
public final class RulesTest extends TreePathScanner<Void, Void> {
    private static final int DEEPEST = 8;

    private final Trees trees;
    private final Map<Element, Set<Element>> calls = new LinkedHashMap<>();
    private final Deque<Element> open = new ArrayDeque<>();
    private String deepestChain = "";
    private int deepest = 0;
    private Element current = null;

    private RulesTest(Trees trees) {
        this.trees = trees;
    }

    public static void main(String[] args) throws IOException {
        Path file = Path.of(args.length > 0 ? args[0] : "src/main/java/OverTheShoulder.java");
        JavaCompiler compiler = ToolProvider.getSystemJavaCompiler();
        try (StandardJavaFileManager files = compiler.getStandardFileManager(null, null, null)) {
            JavacTask task = (JavacTask) compiler.getTask(null, files, null, List.of("-proc:none"), null,
                    files.getJavaFileObjects(file));
            RulesTest test = new RulesTest(Trees.instance(task));
            Iterable<? extends Tree> units = task.parse();
            task.analyze();
            units.forEach(unit -> test.scan(unit, null));
            test.depths();
            test.recursion();
        }
        Checks.end("RulesTest");
    }

    @Override
    public Void visitClass(ClassTree tree, Void none) {
        Element outer = current;
        current = null;
        super.visitClass(tree, none);
        current = outer;
        return null;
    }

    @Override
    public Void visitMethod(MethodTree tree, Void none) {
        current = trees.getElement(getCurrentPath());
        calls.put(current, new LinkedHashSet<>());
        super.visitMethod(tree, none);
        current = null;
        return null;
    }

    @Override
    public Void visitMethodInvocation(MethodInvocationTree tree, Void none) {
        calledHere();
        return super.visitMethodInvocation(tree, none);
    }

    @Override
    public Void visitNewClass(NewClassTree tree, Void none) {
        calledHere();
        madeHere(tree);
        return super.visitNewClass(tree, none);
    }

    @Override
    public Void visitNewArray(NewArrayTree tree, Void none) {
        madeHere(tree);
        return super.visitNewArray(tree, none);
    }

    private void calledHere() {
        if (current != null) {
            calls.get(current).add(trees.getElement(getCurrentPath()));
        }
    }

    /** What a call makes stays in the run's one room, so all is made with the object itself. */
    private void madeHere(Tree tree) {
        boolean isCall = current != null && !current.getSimpleName().contentEquals("<init>");
        Checks.holds("'" + tree + "' in " + current + " is made with the object", !isCall);
    }

    private void depths() {
        for (Element method : calls.keySet()) {
            if (method.getModifiers().contains(Modifier.PUBLIC)) {
                deepest = 0;
                goInto(method);
                Checks.holds("at most " + DEEPEST + " deep, not " + deepest + ":" + deepestChain, deepest <= DEEPEST);
            }
        }
    }

    /** A method that stands open already is a recursion's, which rule 8 bounds. */
    private void goInto(Element method) {
        if (open.contains(method)) {
            return;
        }
        open.addLast(method);
        if (open.size() > deepest) {
            deepest = open.size();
            StringBuilder chain = new StringBuilder();
            open.forEach(one -> chain.append(' ').append(one.getSimpleName()));
            deepestChain = chain.toString();
        }
        calls.getOrDefault(method, Set.of()).forEach(this::goInto);
        open.removeLast();
    }

    private void recursion() {
        for (Element method : calls.keySet()) {
            Set<Element> reached = new LinkedHashSet<>();
            reach(method, reached);
            if (reached.contains(method)) {
                boolean carries = ((ExecutableElement) method).getParameters().stream()
                        .anyMatch(parameter -> parameter.getSimpleName().contentEquals("depth"));
                Checks.holds(method + " carries its depth", carries);
                Checks.holds(method + " is private", method.getModifiers().contains(Modifier.PRIVATE));
            }
        }
    }

    private void reach(Element from, Set<Element> reached) {
        for (Element called : calls.getOrDefault(from, Set.of())) {
            if (reached.add(called)) {
                reach(called, reached);
            }
        }
    }
}
