import com.sun.source.tree.BlockTree;
import com.sun.source.tree.ClassTree;
import com.sun.source.tree.CompilationUnitTree;
import com.sun.source.tree.DoWhileLoopTree;
import com.sun.source.tree.ExpressionTree;
import com.sun.source.tree.ForLoopTree;
import com.sun.source.tree.MethodInvocationTree;
import com.sun.source.tree.MethodTree;
import com.sun.source.tree.NewClassTree;
import com.sun.source.tree.Tree;
import com.sun.source.tree.VariableTree;
import com.sun.source.tree.WhileLoopTree;
import com.sun.source.util.JavacTask;
import com.sun.source.util.TreePath;
import com.sun.source.util.TreePathScanner;
import com.sun.source.util.Trees;
import java.io.IOException;
import java.io.Writer;
import java.nio.file.Path;
import java.util.ArrayList;
import java.util.List;
import java.util.Map;
import java.util.Set;
import java.util.TreeMap;
import java.util.TreeSet;
import javax.lang.model.element.Element;
import javax.lang.model.element.ElementKind;
import javax.lang.model.element.Modifier;
import javax.tools.JavaCompiler;
import javax.tools.StandardJavaFileManager;
import javax.tools.ToolProvider;

/** What of the rules of ../shared/LANGUAGE.md can be read off the class's source. */
public final class LanguageTest extends TreePathScanner<Void, Void> {
    private static final Path SOURCE = Path.of("src/main/java/ClassInference.java");

    private static final int MOST_PARAMETERS = 7;
    private static final int MOST_LINES = 60;
    private static final int MOST_CLASSES = 12;
    private static final int MOST_FIELDS = 20;
    private static final int MOST_CALLS_DEEP = 8;

    /** Rules 2 and 6. */
    private static final Set<Tree.Kind> FORBIDDEN = Set.of(Tree.Kind.THROW, Tree.Kind.TRY, Tree.Kind.CATCH,
        Tree.Kind.SYNCHRONIZED, Tree.Kind.ASSERT, Tree.Kind.LAMBDA_EXPRESSION, Tree.Kind.MEMBER_REFERENCE);
    /** Rule 4, as far as the class needs it. */
    private static final Set<String> LIBRARY = Set.of("Arrays.copyOf", "Arrays.fill", "Math.min", "Integer.bitCount");
    private static final Set<String> IMPORTS = Set.of("java.util.Arrays");
    /** Rule 8: each of these is kept low by a limit of the document, and one more would have to be too. */
    private static final Set<String> RECURSIVE = new TreeSet<>(Set.of("ClassTable.holdsAllDown", "Typer.writeOut",
        "Typer.typeOf", "Typer.typeOfLambda", "Typer.typeOfApply", "Typer.typeOfLet"));

    private final Trees trees;
    private final CompilationUnitTree unit;
    private final Map<String, Set<String>> calls = new TreeMap<>();
    private String method = "";
    private int classes = 0;
    private int wrong = 0;

    private LanguageTest(Trees someTrees, CompilationUnitTree aUnit) {
        trees = someTrees;
        unit = aUnit;
    }

    private void fault(int rule, Tree where, String what) {
        wrong++;
        System.out.println("rule " + rule + ", line " + lineOf(where, false) + ": " + what);
    }

    private long lineOf(Tree tree, boolean end) {
        long place = end ? trees.getSourcePositions().getEndPosition(unit, tree)
            : trees.getSourcePositions().getStartPosition(unit, tree);
        return unit.getLineMap().getLineNumber(place);
    }

    @Override
    public Void scan(Tree tree, Void none) {
        if (tree != null && FORBIDDEN.contains(tree.getKind())) {
            fault(6, tree, tree.getKind() + " is not in the language");
        }
        return super.scan(tree, none);
    }

    @Override
    public Void visitClass(ClassTree tree, Void none) {
        classes++;
        Tree around = getCurrentPath().getParentPath().getLeaf();
        if (around instanceof ClassTree && !tree.getModifiers().getFlags().contains(Modifier.STATIC)) {
            fault(2, tree, "a class inside that is not static");
        }
        if (!(around instanceof ClassTree) && !(around instanceof CompilationUnitTree)) {
            fault(2, tree, "a local or anonymous class");
        }
        int fields = 0;
        for (Tree member : tree.getMembers()) {
            if (member instanceof BlockTree) {
                fault(5, member, "an initialiser block");
            }
            if (member instanceof VariableTree) {
                fields += checkField((VariableTree) member);
            }
        }
        if (fields > MOST_FIELDS) {
            fault(11, tree, fields + " fields");
        }
        return super.visitClass(tree, none);
    }

    /** 1 for a field of objects, 0 for a constant. */
    private int checkField(VariableTree field) {
        Set<Modifier> flags = field.getModifiers().getFlags();
        if (!flags.contains(Modifier.STATIC)) {
            return 1;
        }
        if (!flags.contains(Modifier.FINAL) || !Set.of("int", "long").contains(field.getType().toString())) {
            fault(5, field, "static " + field.getName() + " is no constant");
        }
        return 0;
    }

    @Override
    public Void visitMethod(MethodTree tree, Void none) {
        String before = method;
        method = nameOf(trees.getElement(getCurrentPath()));
        calls.computeIfAbsent(method, key -> new TreeSet<>());
        if (tree.getParameters().size() > MOST_PARAMETERS) {
            fault(11, tree, method + " has " + tree.getParameters().size() + " parameters");
        }
        long lines = lineOf(tree, true) - lineOf(tree, false) + 1;
        if (lines > MOST_LINES) {
            fault(11, tree, method + " has " + lines + " lines");
        }
        super.visitMethod(tree, none);
        method = before;
        return null;
    }

    private static String nameOf(Element member) {
        return member.getEnclosingElement().getSimpleName() + "." + member.getSimpleName();
    }

    @Override
    public Void visitMethodInvocation(MethodInvocationTree tree, Void none) {
        checkCall(tree, trees.getElement(new TreePath(getCurrentPath(), tree.getMethodSelect())));
        return super.visitMethodInvocation(tree, none);
    }

    @Override
    public Void visitNewClass(NewClassTree tree, Void none) {
        checkCall(tree, trees.getElement(getCurrentPath()));
        return super.visitNewClass(tree, none);
    }

    private void checkCall(Tree tree, Element called) {
        if (called.getKind() == ElementKind.CONSTRUCTOR && nameOf(called).equals("Object.<init>")) {
            return;
        }
        if (!isOwn(called) && !LIBRARY.contains(nameOf(called))) {
            fault(4, tree, nameOf(called) + " is not in the library");
        }
        if (isOwn(called)) {
            calls.computeIfAbsent(method, key -> new TreeSet<>()).add(nameOf(called));
        }
    }

    private boolean isOwn(Element member) {
        TreePath path = trees.getPath(member);
        return path != null && path.getCompilationUnit() == unit;
    }

    @Override
    public Void visitWhileLoop(WhileLoopTree tree, Void none) {
        checkCondition(tree, tree.getCondition());
        return super.visitWhileLoop(tree, none);
    }

    @Override
    public Void visitDoWhileLoop(DoWhileLoopTree tree, Void none) {
        checkCondition(tree, tree.getCondition());
        return super.visitDoWhileLoop(tree, none);
    }

    @Override
    public Void visitForLoop(ForLoopTree tree, Void none) {
        checkCondition(tree, tree.getCondition());
        if (tree.getUpdate().isEmpty()) {
            fault(9, tree, "a loop without a step");
        }
        return super.visitForLoop(tree, none);
    }

    /** A counter against a bound: no loop may go on for ever. */
    private void checkCondition(Tree loop, ExpressionTree condition) {
        if (condition == null || !condition.toString().matches("(?s).*[<>].*")) {
            fault(9, loop, "a loop whose end can't be seen: " + condition);
        }
    }

    private Set<String> reachedFrom(String start) {
        Set<String> reached = new TreeSet<>();
        List<String> open = new ArrayList<>(calls.getOrDefault(start, Set.of()));
        while (!open.isEmpty()) {
            String next = open.remove(open.size() - 1);
            if (reached.add(next)) {
                open.addAll(calls.getOrDefault(next, Set.of()));
            }
        }
        return reached;
    }

    /** How many calls stand open at most, a recursion counting as the methods that it goes through, once each. */
    private int depthOf(String start, Set<String> above) {
        int deepest = 0;
        Set<String> around = new TreeSet<>(above);
        around.add(start);
        for (String next : calls.getOrDefault(start, Set.of())) {
            if (!around.contains(next)) {
                deepest = Math.max(deepest, depthOf(next, around));
            }
        }
        return deepest + 1;
    }

    private void checkCalls() {
        Set<String> recursive = new TreeSet<>();
        for (String each : calls.keySet()) {
            if (reachedFrom(each).contains(each)) {
                recursive.add(each);
            }
            int depth = depthOf(each, Set.of());
            if (depth > MOST_CALLS_DEEP) {
                fault(11, unit, each + " calls " + depth + " deep");
            }
        }
        if (!recursive.equals(RECURSIVE)) {
            fault(8, unit, "recursion of " + recursive);
        }
    }

    private void checkUnit() {
        scan(unit, null);
        checkCalls();
        unit.getImports().forEach(each -> {
            if (each.isStatic() || !IMPORTS.contains(each.getQualifiedIdentifier().toString())) {
                fault(4, each, "an import of " + each.getQualifiedIdentifier());
            }
        });
        if (unit.getPackageName() != null) {
            fault(0, unit, "a package line");
        }
        if (classes > MOST_CLASSES) {
            fault(11, unit, classes + " classes");
        }
    }

    public static void main(String[] args) throws IOException {
        JavaCompiler compiler = ToolProvider.getSystemJavaCompiler();
        try (StandardJavaFileManager files = compiler.getStandardFileManager(null, null, null)) {
            JavacTask task = (JavacTask) compiler.getTask(Writer.nullWriter(), files, null,
                List.of("--release", "17", "-proc:none"), null, files.getJavaFileObjects(SOURCE));
            CompilationUnitTree unit = task.parse().iterator().next();
            task.analyze();
            LanguageTest test = new LanguageTest(Trees.instance(task), unit);
            test.checkUnit();
            System.out.println(test.calls.size() + " methods in " + test.classes + " classes, " + test.wrong + " faults");
            if (test.wrong != 0 || test.calls.size() < 17) {
                System.exit(1);
            }
        }
    }
}
