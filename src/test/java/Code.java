import com.sun.source.tree.ClassTree;
import com.sun.source.tree.CompilationUnitTree;
import com.sun.source.tree.ExpressionTree;
import com.sun.source.tree.MethodInvocationTree;
import com.sun.source.tree.MethodTree;
import com.sun.source.tree.NewClassTree;
import com.sun.source.tree.Tree;
import com.sun.source.tree.VariableTree;
import com.sun.source.util.JavacTask;
import com.sun.source.util.TreePath;
import com.sun.source.util.TreePathScanner;
import com.sun.source.util.Trees;
import java.io.IOException;
import java.nio.file.Path;
import java.util.ArrayDeque;
import java.util.List;
import java.util.Map;
import java.util.Set;
import java.util.TreeMap;
import java.util.TreeSet;
import javax.lang.model.element.Element;
import javax.lang.model.element.ElementKind;
import javax.lang.model.element.Modifier;
import javax.tools.JavaCompiler;
import javax.tools.StandardJavaFileManager;
import javax.tools.ToolProvider;

/** One Java file as the compiler reads it: who calls whom, how long the methods are, what constructors hand out. */
final class Code extends TreePathScanner<Void, Void> {
    /** For each method and constructor those of the file that it calls; a field's initialiser belongs to the constructors. */
    final Map<String, Set<String>> calls = new TreeMap<>();
    final Set<String> entries = new TreeSet<>();
    final Map<String, Integer> lines = new TreeMap<>();
    final Map<String, Integer> parameters = new TreeMap<>();
    final Map<String, Integer> fields = new TreeMap<>();
    final Set<String> handedOut = new TreeSet<>();

    private final Trees trees;
    private final CompilationUnitTree unit;
    private final ArrayDeque<String> insideOf = new ArrayDeque<>();
    private boolean making;

    static Code read(Path file) throws IOException {
        JavaCompiler compiler = ToolProvider.getSystemJavaCompiler();
        try (StandardJavaFileManager files = compiler.getStandardFileManager(null, null, null)) {
            JavacTask task = (JavacTask) compiler.getTask(null, files, null, List.of("-proc:none"), null,
                    files.getJavaFileObjects(file));
            CompilationUnitTree unit = task.parse().iterator().next();
            task.analyze();
            Code code = new Code(Trees.instance(task), unit);
            code.scan(unit, null);
            return code;
        }
    }

    private Code(Trees trees, CompilationUnitTree unit) {
        this.trees = trees;
        this.unit = unit;
    }

    /** How many calls stand open at most, none of them of a method that is open already. */
    int deepest(String method, ArrayDeque<String> open) {
        open.addLast(method);
        int most = open.size();
        for (String called : calls.getOrDefault(method, Set.of())) {
            if (!open.contains(called)) most = Math.max(most, deepest(called, open));
        }
        open.removeLast();
        return most;
    }

    @Override
    public Void visitClass(ClassTree tree, Void none) {
        fields.put(name(trees.getElement(getCurrentPath())), 0);
        return super.visitClass(tree, none);
    }

    @Override
    public Void visitVariable(VariableTree tree, Void none) {
        Element variable = trees.getElement(getCurrentPath());
        if (variable.getKind() != ElementKind.FIELD) return super.visitVariable(tree, none);
        boolean kept = !variable.getModifiers().contains(Modifier.STATIC);
        String owner = name(variable.getEnclosingElement());
        if (kept) fields.merge(owner, 1, Integer::sum);
        insideOf.addLast(owner + ".<init>");
        making = kept;
        super.visitVariable(tree, none);
        making = false;
        insideOf.removeLast();
        return null;
    }

    @Override
    public Void visitMethod(MethodTree tree, Void none) {
        Element method = trees.getElement(getCurrentPath());
        String name = name(method);
        if (method.getModifiers().contains(Modifier.PUBLIC)) entries.add(name);
        calls.computeIfAbsent(name, key -> new TreeSet<>());
        lines.merge(name, (int) (line(tree, false) - line(tree, true) + 1), Math::max);
        parameters.merge(name, tree.getParameters().size(), Math::max);
        insideOf.addLast(name);
        making = method.getKind() == ElementKind.CONSTRUCTOR;
        super.visitMethod(tree, none);
        making = false;
        insideOf.removeLast();
        return null;
    }

    @Override
    public Void visitMethodInvocation(MethodInvocationTree tree, Void none) {
        noteCall();
        noteHandedOut(tree.getArguments());
        return super.visitMethodInvocation(tree, none);
    }

    @Override
    public Void visitNewClass(NewClassTree tree, Void none) {
        noteCall();
        noteHandedOut(tree.getArguments());
        return super.visitNewClass(tree, none);
    }

    private void noteCall() {
        Element called = trees.getElement(getCurrentPath());
        if (called == null || trees.getTree(called) == null || insideOf.isEmpty()) return;
        calls.computeIfAbsent(insideOf.getLast(), key -> new TreeSet<>()).add(name(called));
    }

    private void noteHandedOut(List<? extends ExpressionTree> arguments) {
        if (!making) return;
        for (ExpressionTree argument : arguments) {
            Element given = trees.getElement(new TreePath(getCurrentPath(), argument));
            if (given != null && isOfTheObject(given)) handedOut.add(insideOf.getLast() + " hands out " + given);
        }
    }

    private static boolean isOfTheObject(Element given) {
        boolean itself = given.getSimpleName().contentEquals("this");
        boolean part = given.getKind() == ElementKind.FIELD && !given.getModifiers().contains(Modifier.STATIC)
                && !given.asType().getKind().isPrimitive();
        return itself || part;
    }

    private long line(Tree tree, boolean first) {
        long place = first ? trees.getSourcePositions().getStartPosition(unit, tree)
                : trees.getSourcePositions().getEndPosition(unit, tree);
        return unit.getLineMap().getLineNumber(Math.max(0, place));
    }

    private static String name(Element element) {
        if (element.getKind().isClass()) return element.getSimpleName().toString();
        return element.getEnclosingElement().getSimpleName() + "." + element.getSimpleName();
    }
}
