import com.sun.source.tree.BinaryTree;
import com.sun.source.tree.ClassTree;
import com.sun.source.tree.CompilationUnitTree;
import com.sun.source.tree.CompoundAssignmentTree;
import com.sun.source.tree.EnhancedForLoopTree;
import com.sun.source.tree.ExpressionTree;
import com.sun.source.tree.ForLoopTree;
import com.sun.source.tree.LiteralTree;
import com.sun.source.tree.MethodInvocationTree;
import com.sun.source.tree.MethodTree;
import com.sun.source.tree.NewArrayTree;
import com.sun.source.tree.NewClassTree;
import com.sun.source.tree.ParenthesizedTree;
import com.sun.source.tree.Tree;
import com.sun.source.tree.Tree.Kind;
import com.sun.source.tree.TypeCastTree;
import com.sun.source.tree.VariableTree;
import com.sun.source.tree.WhileLoopTree;
import com.sun.source.util.JavacTask;
import com.sun.source.util.TreePath;
import com.sun.source.util.TreePathScanner;
import com.sun.source.util.Trees;
import java.io.IOException;
import java.nio.file.Path;
import java.util.ArrayList;
import java.util.EnumSet;
import java.util.HashMap;
import java.util.LinkedHashSet;
import java.util.List;
import java.util.Map;
import java.util.Set;
import javax.lang.model.element.Element;
import javax.lang.model.element.Modifier;
import javax.lang.model.element.VariableElement;
import javax.lang.model.type.ArrayType;
import javax.lang.model.type.TypeKind;
import javax.lang.model.type.TypeMirror;
import javax.tools.JavaCompiler;
import javax.tools.StandardJavaFileManager;
import javax.tools.ToolProvider;

/**
 * The class keeps to LANGUAGE.md, as far as that can be read off its source by the compiler's own tree. It is
 * held to less than the rules leave: only what the class needs is let through.
 */
public final class LanguageTest extends TreePathScanner<Void, Void> {
    private static final Set<Kind> REFUSED = EnumSet.of(Kind.LAMBDA_EXPRESSION, Kind.MEMBER_REFERENCE, Kind.THROW,
        Kind.TRY, Kind.CATCH, Kind.SYNCHRONIZED, Kind.ASSERT, Kind.INSTANCE_OF, Kind.BINDING_PATTERN, Kind.IMPORT,
        Kind.PACKAGE, Kind.ANNOTATION, Kind.SWITCH_EXPRESSION, Kind.YIELD, Kind.DO_WHILE_LOOP, Kind.DOUBLE_LITERAL,
        Kind.FLOAT_LITERAL, Kind.ENUM, Kind.INTERFACE, Kind.RECORD, Kind.NULL_LITERAL);
    private static final Set<String> LIBRARY = Set.of("java.lang.String.length()", "java.lang.String.charAt(int)",
        "java.lang.Math.max(int,int)", "java.lang.Math.min(int,int)", "java.lang.Integer.bitCount(int)",
        "java.lang.Object.Object()");
    private static final Set<String> TYPES = Set.of("int", "long", "boolean", "char", "byte", "void",
        "java.lang.String", "int[]", "long[]", "byte[]", "boolean[]");
    private static final int MOST_LINES = 60;
    private static final int MOST_DEEP = 8;

    private final Trees trees;
    private final CompilationUnitTree unit;
    private final Map<String, Set<String>> calls = new HashMap<>();
    private final List<String> entries = new ArrayList<>();
    private String within = "";
    private boolean inMaker;

    private LanguageTest(Trees trees, CompilationUnitTree unit) {
        this.trees = trees;
        this.unit = unit;
    }

    public static void main(String[] args) throws IOException {
        JavaCompiler javac = ToolProvider.getSystemJavaCompiler();
        try (StandardJavaFileManager files = javac.getStandardFileManager(null, null, null)) {
            JavacTask task = (JavacTask) javac.getTask(null, files, null, List.of("-proc:none", "--release", "17"), null,
                files.getJavaFileObjects(Path.of("src/main/java/MillInspectors.java")));
            CompilationUnitTree unit = task.parse().iterator().next();
            task.analyze();
            LanguageTest test = new LanguageTest(Trees.instance(task), unit);
            test.scan(new TreePath(unit), null);
            test.callsAreShallow();
        }
        Due.end("LanguageTest");
    }

    private void holds(String rule, Tree at, boolean so) {
        long line = unit.getLineMap().getLineNumber(trees.getSourcePositions().getStartPosition(unit, at));
        Due.holds("line " + line + ", " + rule, so);
    }

    @Override
    public Void scan(Tree tree, Void nothing) {
        if (tree != null && REFUSED.contains(tree.getKind())) {
            holds("rules 2, 3, 6: no " + tree.getKind(), tree, false);
        }
        return super.scan(tree, nothing);
    }

    @Override
    public Void visitClass(ClassTree tree, Void nothing) {
        boolean outermost = getCurrentPath().getParentPath().getLeaf().getKind() == Kind.COMPILATION_UNIT;
        boolean member = getCurrentPath().getParentPath().getLeaf().getKind() == Kind.CLASS;
        holds("rule 2: classes inside are static", tree,
            outermost || member && tree.getModifiers().getFlags().contains(Modifier.STATIC));
        for (Tree inside : tree.getMembers()) {
            holds("rule 5: no initialiser block", inside, inside.getKind() != Kind.BLOCK);
        }
        return super.visitClass(tree, nothing);
    }

    @Override
    public Void visitMethod(MethodTree tree, Void nothing) {
        String outer = within;
        boolean outerMaker = inMaker;
        Element element = trees.getElement(getCurrentPath());
        within = name(element);
        inMaker = tree.getReturnType() == null;
        calls.computeIfAbsent(within, key -> new LinkedHashSet<>());
        if (element.getModifiers().contains(Modifier.PUBLIC)) {
            entries.add(within);
        }
        holds("rule 11: seven parameters at most", tree, tree.getParameters().size() <= 7);
        holds("rule 11: a short method", tree, lines(tree) <= MOST_LINES);
        if (tree.getReturnType() != null) {
            isTypeOfRules(tree, trees.getTypeMirror(new TreePath(getCurrentPath(), tree.getReturnType())));
        }
        super.visitMethod(tree, nothing);
        within = outer;
        inMaker = outerMaker;
        return null;
    }

    /** A maker that the source leaves out has no lines: the compiler puts it where the class begins. */
    private long lines(MethodTree tree) {
        long end = trees.getSourcePositions().getEndPosition(unit, tree);
        long start = trees.getSourcePositions().getStartPosition(unit, tree);
        return end < 0 ? 0 : unit.getLineMap().getLineNumber(end) - unit.getLineMap().getLineNumber(start) + 1;
    }

    private static String name(Element method) {
        return method.getEnclosingElement() + "." + (method.getSimpleName().contentEquals("<init>")
            ? method.toString().replaceFirst(".*\\.", "") : method.toString());
    }

    @Override
    public Void visitVariable(VariableTree tree, Void nothing) {
        Element element = trees.getElement(getCurrentPath());
        isTypeOfRules(tree, element.asType());
        if (element.getModifiers().contains(Modifier.STATIC)) {
            holds("rule 5: static fields are constants", tree, ((VariableElement) element).getConstantValue() != null);
        }
        return super.visitVariable(tree, nothing);
    }

    private void isTypeOfRules(Tree tree, TypeMirror type) {
        String name = type.toString();
        holds("rule 3: type " + name, tree, TYPES.contains(name) || name.startsWith("MillInspectors"));
    }

    @Override
    public Void visitMethodInvocation(MethodInvocationTree tree, Void nothing) {
        Element element = trees.getElement(new TreePath(getCurrentPath(), tree.getMethodSelect()));
        String called = name(element);
        boolean own = called.startsWith("MillInspectors");
        holds("rule 4: " + called, tree, own || LIBRARY.contains(called));
        calls.computeIfAbsent(within, key -> new LinkedHashSet<>()).add(called);
        return super.visitMethodInvocation(tree, nothing);
    }

    @Override
    public Void visitNewClass(NewClassTree tree, Void nothing) {
        Element element = trees.getElement(getCurrentPath());
        holds("rule 2: no anonymous class", tree, tree.getClassBody() == null);
        holds("rule 12: objects are made in makers alone", tree, isInMaker());
        holds("rule 4: own objects alone", tree, name(element).startsWith("MillInspectors"));
        calls.computeIfAbsent(within, key -> new LinkedHashSet<>()).add(name(element));
        return super.visitNewClass(tree, nothing);
    }

    @Override
    public Void visitNewArray(NewArrayTree tree, Void nothing) {
        holds("rule 12: rows are made in makers alone", tree, isInMaker());
        holds("rule 3: rows of one dimension", tree, tree.getDimensions().size() == 1);
        for (ExpressionTree length : tree.getDimensions()) {
            holds("rule 7: a row's length is a number above 0", tree, constant(length) > 0);
        }
        return super.visitNewArray(tree, nothing);
    }

    /** A field's first value belongs to the maker of its class. */
    private boolean isInMaker() {
        return inMaker || within.isEmpty();
    }

    @Override
    public Void visitTypeCast(TypeCastTree tree, Void nothing) {
        TypeMirror to = trees.getTypeMirror(new TreePath(getCurrentPath(), tree.getType()));
        holds("rule 6: casts of numbers alone", tree, to.getKind().isPrimitive());
        return super.visitTypeCast(tree, nothing);
    }

    @Override
    public Void visitBinary(BinaryTree tree, Void nothing) {
        if (tree.getKind() == Kind.DIVIDE || tree.getKind() == Kind.REMAINDER) {
            holds("rule 7: a divisor is a number above 0", tree, constant(tree.getRightOperand()) > 0);
        }
        for (ExpressionTree side : List.of(tree.getLeftOperand(), tree.getRightOperand())) {
            TypeMirror type = trees.getTypeMirror(new TreePath(getCurrentPath(), side));
            holds("rules 6, 10: numbers are compared and joined alone", tree, type.getKind().isPrimitive());
        }
        return super.visitBinary(tree, nothing);
    }

    @Override
    public Void visitCompoundAssignment(CompoundAssignmentTree tree, Void nothing) {
        holds("rule 7: no division by assignment", tree,
            tree.getKind() != Kind.DIVIDE_ASSIGNMENT && tree.getKind() != Kind.REMAINDER_ASSIGNMENT);
        TypeMirror type = trees.getTypeMirror(new TreePath(getCurrentPath(), tree.getVariable()));
        holds("rule 10: no texts are joined", tree, type.getKind().isPrimitive());
        return super.visitCompoundAssignment(tree, nothing);
    }

    @Override
    public Void visitForLoop(ForLoopTree tree, Void nothing) {
        holds("rule 9: a loop has an end", tree, tree.getCondition() != null && !isLiteral(tree.getCondition()));
        holds("rule 9: a loop counts", tree, tree.getUpdate().size() == 1);
        return super.visitForLoop(tree, nothing);
    }

    @Override
    public Void visitWhileLoop(WhileLoopTree tree, Void nothing) {
        holds("rule 9: a loop has an end", tree, !isLiteral(tree.getCondition()));
        return super.visitWhileLoop(tree, nothing);
    }

    @Override
    public Void visitEnhancedForLoop(EnhancedForLoopTree tree, Void nothing) {
        TypeMirror over = trees.getTypeMirror(new TreePath(getCurrentPath(), tree.getExpression()));
        holds("rule 12: for over a row alone", tree, over.getKind() == TypeKind.ARRAY
            && ((ArrayType) over).getComponentType().getKind().isPrimitive());
        return super.visitEnhancedForLoop(tree, nothing);
    }

    private static boolean isLiteral(ExpressionTree condition) {
        ExpressionTree inner = condition;
        while (inner instanceof ParenthesizedTree brackets) {
            inner = brackets.getExpression();
        }
        return inner instanceof LiteralTree;
    }

    /** What the compiler itself can tell of an expression without running it; -1 if that is nothing. */
    private long constant(ExpressionTree tree) {
        if (tree instanceof ParenthesizedTree brackets) {
            return constant(brackets.getExpression());
        }
        if (tree instanceof LiteralTree literal && literal.getValue() instanceof Integer n) {
            return n;
        }
        if (tree instanceof BinaryTree two) {
            long left = constant(two.getLeftOperand());
            long right = constant(two.getRightOperand());
            if (left < 0 || right < 0) {
                return -1;
            }
            switch (tree.getKind()) {
                case PLUS: return left + right;
                case MULTIPLY: return left * right;
                case LEFT_SHIFT: return left << right;
                default: return -1;
            }
        }
        Element element = trees.getElement(TreePath.getPath(unit, tree));
        boolean fixed = element instanceof VariableElement;
        return fixed && ((VariableElement) element).getConstantValue() instanceof Integer n ? n : -1;
    }

    /** Rules 8 and 11: no method comes back to itself, and eight calls stand open at most, the library's too. */
    private void callsAreShallow() {
        Due.holds("rule 1: 36 entries: " + entries, entries.size() == 36);
        for (String method : calls.keySet()) {
            int deep = depth(method, new ArrayList<>());
            Due.holds("rule 11: " + method + " goes " + deep + " deep", deep <= MOST_DEEP);
        }
    }

    private int depth(String method, List<String> open) {
        Due.holds("rule 8: " + open + " comes back to " + method, !open.contains(method));
        int deepest = 0;
        if (!open.contains(method)) {
            open.add(method);
            for (String called : calls.getOrDefault(method, Set.of())) {
                deepest = Math.max(deepest, depth(called, open));
            }
            open.remove(open.size() - 1);
        }
        return deepest + 1;
    }
}
