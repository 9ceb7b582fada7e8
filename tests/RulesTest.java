import com.sun.source.tree.AssertTree;
import com.sun.source.tree.BinaryTree;
import com.sun.source.tree.BlockTree;
import com.sun.source.tree.ClassTree;
import com.sun.source.tree.CompilationUnitTree;
import com.sun.source.tree.CompoundAssignmentTree;
import com.sun.source.tree.DoWhileLoopTree;
import com.sun.source.tree.ExpressionTree;
import com.sun.source.tree.ForLoopTree;
import com.sun.source.tree.LambdaExpressionTree;
import com.sun.source.tree.LiteralTree;
import com.sun.source.tree.MemberReferenceTree;
import com.sun.source.tree.MethodInvocationTree;
import com.sun.source.tree.MethodTree;
import com.sun.source.tree.NewArrayTree;
import com.sun.source.tree.NewClassTree;
import com.sun.source.tree.SynchronizedTree;
import com.sun.source.tree.ThrowTree;
import com.sun.source.tree.Tree;
import com.sun.source.tree.TryTree;
import com.sun.source.tree.TypeCastTree;
import com.sun.source.tree.VariableTree;
import com.sun.source.tree.WhileLoopTree;
import com.sun.source.util.JavacTask;
import com.sun.source.util.SourcePositions;
import com.sun.source.util.TreePath;
import com.sun.source.util.TreePathScanner;
import com.sun.source.util.Trees;
import java.nio.file.Path;
import java.util.HashMap;
import java.util.List;
import java.util.Map;
import java.util.Set;
import java.util.TreeSet;
import javax.lang.model.element.Element;
import javax.lang.model.element.ElementKind;
import javax.lang.model.element.Modifier;
import javax.lang.model.element.VariableElement;
import javax.tools.JavaCompiler;
import javax.tools.StandardJavaFileManager;
import javax.tools.ToolProvider;

/**
 * The rules of LANGUAGE.md, looked for in the class as the compiler reads it. It takes less than the rules allow:
 * what the class does without today (texts, lists, recursion, objects made by a call) is told as a fault.
 */
public final class RulesTest extends TreePathScanner<Void, Void> {
    private static final Path FILE = Path.of("src/main/java/FuseBoards.java");
    private static final Set<String> TYPES =
        Set.of("int", "long", "boolean", "int[]", "boolean[]", "int[][]", "FuseBoards.House", "FuseBoards.Pad");
    private static final Set<String> STATIC_TYPES = Set.of("int", "int[]");
    private static final Set<String> LIBRARY = Set.of("java.lang.Math.min", "java.lang.Math.max", "java.lang.Integer.bitCount",
        "java.lang.System.arraycopy", "java.util.Arrays.fill");
    private static final int MOST_CLASSES = 12, MOST_FIELDS = 20, MOST_LINES = 60, MOST_PARAMETERS = 7, MOST_DEEP = 8;

    private final Trees trees;
    private final SourcePositions positions;
    private final CompilationUnitTree unit;
    private final Map<String, Set<String>> calls = new HashMap<>();
    private int classes = 0;

    private RulesTest(Trees trees, CompilationUnitTree unit) {
        this.trees = trees;
        this.unit = unit;
        positions = trees.getSourcePositions();
    }

    public static void main(String[] args) throws Exception {
        JavaCompiler compiler = ToolProvider.getSystemJavaCompiler();
        try (StandardJavaFileManager files = compiler.getStandardFileManager(null, null, null)) {
            JavacTask task = (JavacTask) compiler.getTask(null, files, null, List.of("-proc:none", "--release", "17"), null,
                files.getJavaFileObjects(FILE));
            CompilationUnitTree unit = task.parse().iterator().next();
            task.analyze();
            RulesTest rules = new RulesTest(Trees.instance(task), unit);
            rules.scan(new TreePath(unit), null);
            rules.endOfFile();
        }
        Due.end();
    }

    private void endOfFile() {
        Due.isTrue("1: one class in the file", unit.getTypeDecls().size() == 1);
        Due.isTrue("1: no package", unit.getPackageName() == null);
        Due.isTrue("11: classes: " + classes, classes <= MOST_CLASSES);
        for (String method : calls.keySet()) {
            int deep = depth(method, MOST_DEEP + 1);
            Due.isTrue("8, 11: calls from " + method + " go " + deep + " deep", deep <= MOST_DEEP);
        }
    }

    /** How many methods stand open at once with this one; recursion shows as more than enough. */
    private int depth(String method, int enough) {
        int deepest = 0;
        if (enough <= 0) return 1;
        for (String called : calls.getOrDefault(method, Set.of())) deepest = Math.max(deepest, depth(called, enough - 1));
        return deepest + 1;
    }

    // ---- rules 1, 2, 5, 11: classes, fields, methods

    @Override
    public Void visitClass(ClassTree tree, Void nothing) {
        classes++;
        String name = tree.getSimpleName().toString();
        boolean inside = getCurrentPath().getParentPath().getLeaf() != unit;
        if (inside) Due.isTrue("2: static, not public: " + name, isHiddenAndStatic(tree));
        int fields = 0;
        for (Tree member : tree.getMembers()) {
            if (member instanceof BlockTree) Due.isTrue("5: no initialiser block in " + name, false);
            if (!(member instanceof VariableTree)) continue;
            VariableTree field = (VariableTree) member;
            if (field.getModifiers().getFlags().contains(Modifier.STATIC)) lookAtConstant(field);
            else fields++;
        }
        Due.isTrue("11: fields of " + name + ": " + fields, fields <= MOST_FIELDS);
        return super.visitClass(tree, nothing);
    }

    private static boolean isHiddenAndStatic(ClassTree tree) {
        Set<Modifier> flags = tree.getModifiers().getFlags();
        return flags.contains(Modifier.STATIC) && !flags.contains(Modifier.PUBLIC) && !flags.contains(Modifier.PROTECTED);
    }

    private void lookAtConstant(VariableTree field) {
        String what = "5: a constant written out: " + field.getName();
        Due.isTrue(what, field.getModifiers().getFlags().contains(Modifier.FINAL));
        Due.isTrue(what, STATIC_TYPES.contains(field.getType().toString()));
        Due.isTrue(what, field.getType().toString().equals("int") || field.getInitializer() instanceof NewArrayTree);
    }

    @Override
    public Void visitMethod(MethodTree tree, Void nothing) {
        Due.isTrue("11: parameters of " + tree.getName(), tree.getParameters().size() <= MOST_PARAMETERS);
        Due.isTrue("6: throws nothing: " + tree.getName(), tree.getThrows().isEmpty());
        long from = unit.getLineMap().getLineNumber(Math.max(0, positions.getStartPosition(unit, tree)));
        long to = unit.getLineMap().getLineNumber(Math.max(0, positions.getEndPosition(unit, tree)));
        Due.isTrue("11: lines of " + tree.getName() + ": " + (to - from + 1), to - from < MOST_LINES);
        calls.putIfAbsent(keyOf(trees.getElement(getCurrentPath())), new TreeSet<>());
        return super.visitMethod(tree, nothing);
    }

    // ---- rules 3, 4, 10: types, library, texts

    @Override
    public Void visitVariable(VariableTree tree, Void nothing) {
        String type = trees.getElement(getCurrentPath()).asType().toString();
        Due.isTrue("3: a type it does without: " + type + " " + tree.getName(), TYPES.contains(type));
        return super.visitVariable(tree, nothing);
    }

    @Override
    public Void visitLiteral(LiteralTree tree, Void nothing) {
        Due.isTrue("10: no texts: " + tree, tree.getKind() != Tree.Kind.STRING_LITERAL);
        return super.visitLiteral(tree, nothing);
    }

    @Override
    public Void visitMethodInvocation(MethodInvocationTree tree, Void nothing) {
        Element called = trees.getElement(getCurrentPath());
        if (called.getKind() == ElementKind.METHOD) {
            String owner = called.getEnclosingElement().toString();
            String name = owner + "." + called.getSimpleName();
            if (!owner.startsWith("FuseBoards")) Due.isTrue("4: of the library: " + name, LIBRARY.contains(name));
            else calls.computeIfAbsent(keyOf(methodAround()), key -> new TreeSet<>()).add(keyOf(called));
        }
        return super.visitMethodInvocation(tree, nothing);
    }

    private static String keyOf(Element method) {
        return method == null ? "fields" : method.getEnclosingElement() + "." + method;
    }

    private Element methodAround() {
        for (TreePath path = getCurrentPath(); path != null; path = path.getParentPath()) {
            if (path.getLeaf() instanceof MethodTree) return trees.getElement(path);
        }
        return null;
    }

    // ---- rule 7: divisors and casts

    @Override
    public Void visitBinary(BinaryTree tree, Void nothing) {
        boolean divides = tree.getKind() == Tree.Kind.DIVIDE || tree.getKind() == Tree.Kind.REMAINDER;
        if (divides) Due.isTrue("7: a divisor that is never 0: " + tree, isNeverZero(tree.getRightOperand()));
        return super.visitBinary(tree, nothing);
    }

    private boolean isNeverZero(ExpressionTree divisor) {
        if (divisor.toString().startsWith("Math.max(1, ")) return true;
        Element named = trees.getElement(new TreePath(getCurrentPath(), divisor));
        Object value = named instanceof VariableElement ? ((VariableElement) named).getConstantValue() : null;
        return value instanceof Integer && (Integer) value != 0;
    }

    @Override
    public Void visitCompoundAssignment(CompoundAssignmentTree tree, Void nothing) {
        boolean divides = tree.getKind() == Tree.Kind.DIVIDE_ASSIGNMENT || tree.getKind() == Tree.Kind.REMAINDER_ASSIGNMENT;
        Due.isTrue("7: no division by the way: " + tree, !divides);
        return super.visitCompoundAssignment(tree, nothing);
    }

    @Override
    public Void visitTypeCast(TypeCastTree tree, Void nothing) {
        Due.isTrue("6, 7: casts of numbers alone: " + tree, tree.getType().getKind() == Tree.Kind.PRIMITIVE_TYPE);
        return super.visitTypeCast(tree, nothing);
    }

    // ---- rule 9: loops

    @Override
    public Void visitForLoop(ForLoopTree tree, Void nothing) {
        Due.isTrue("9: a loop with an end: " + tree, hasEnd(tree.getCondition()) && !tree.getUpdate().isEmpty());
        return super.visitForLoop(tree, nothing);
    }

    @Override
    public Void visitWhileLoop(WhileLoopTree tree, Void nothing) {
        Due.isTrue("9: a loop with an end: " + tree, hasEnd(tree.getCondition()));
        return super.visitWhileLoop(tree, nothing);
    }

    @Override
    public Void visitDoWhileLoop(DoWhileLoopTree tree, Void nothing) {
        Due.isTrue("9: a loop with an end: " + tree, hasEnd(tree.getCondition()));
        return super.visitDoWhileLoop(tree, nothing);
    }

    /** A comparison in the loop's condition is the bound of its counter. */
    private static boolean hasEnd(ExpressionTree condition) {
        return condition != null && condition.toString().matches("(?s).*( < | <= | > | >= ).*");
    }

    // ---- rule 12: what is made, is made with the object

    @Override
    public Void visitNewClass(NewClassTree tree, Void nothing) {
        Due.isTrue("2: no anonymous class", tree.getClassBody() == null);
        Due.isTrue("12: made by a call: " + tree, methodAround() == null);
        return super.visitNewClass(tree, nothing);
    }

    @Override
    public Void visitNewArray(NewArrayTree tree, Void nothing) {
        Due.isTrue("12: made by a call: " + tree, methodAround() == null);
        return super.visitNewArray(tree, nothing);
    }

    // ---- rules 2, 6: what there is not

    private Void ruledOut(Tree tree) {
        Due.isTrue("2, 6: ruled out: " + tree, false);
        return null;
    }

    @Override
    public Void visitLambdaExpression(LambdaExpressionTree tree, Void nothing) {
        return ruledOut(tree);
    }

    @Override
    public Void visitMemberReference(MemberReferenceTree tree, Void nothing) {
        return ruledOut(tree);
    }

    @Override
    public Void visitThrow(ThrowTree tree, Void nothing) {
        return ruledOut(tree);
    }

    @Override
    public Void visitTry(TryTree tree, Void nothing) {
        return ruledOut(tree);
    }

    @Override
    public Void visitSynchronized(SynchronizedTree tree, Void nothing) {
        return ruledOut(tree);
    }

    @Override
    public Void visitAssert(AssertTree tree, Void nothing) {
        return ruledOut(tree);
    }
}
