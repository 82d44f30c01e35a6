import com.sun.source.tree.*;
import com.sun.source.util.JavacTask;
import com.sun.source.util.SourcePositions;
import com.sun.source.util.TreePath;
import com.sun.source.util.TreePathScanner;
import com.sun.source.util.Trees;
import java.io.IOException;
import java.nio.file.Path;
import java.util.ArrayDeque;
import java.util.Deque;
import java.util.EnumSet;
import java.util.LinkedHashMap;
import java.util.LinkedHashSet;
import java.util.List;
import java.util.Map;
import java.util.Set;
import javax.lang.model.element.Element;
import javax.lang.model.element.ElementKind;
import javax.lang.model.element.ExecutableElement;
import javax.lang.model.element.Modifier;
import javax.lang.model.element.VariableElement;
import javax.tools.JavaCompiler;
import javax.tools.StandardJavaFileManager;
import javax.tools.ToolProvider;

/**
 * Has the compiler read src/main/java/CoreRope.java and looks at what it has read for the rules of
 * ../shared/LANGUAGE.md, by their numbers. It asks for more than they do where the class gives more
 * and the rule is seen the easier for it: loops that count up to a bound alone, nothing made but in
 * constructors, no recursion, no cast.
 */
public final class LanguageTrees extends TreePathScanner<Void, Void> {
    private static final Path SOURCE = Path.of("src/main/java/CoreRope.java");
    private static final int MOST_LINES = 60, MOST_DEPTH = 8;
    private static final Set<String> LIBRARY = Set.of("Integer.bitCount", "System.arraycopy", "Object.<init>");
    private static final Set<String> TYPES = Set.of("int", "long", "boolean", "int[]", "void", "none",
            "CoreRope.Rope", "CoreRope.Rope[]", "CoreRope.History", "CoreRope.Text");
    private static final Set<Modifier> MODIFIERS =
            EnumSet.of(Modifier.PUBLIC, Modifier.PRIVATE, Modifier.STATIC, Modifier.FINAL);
    private static final Set<Tree.Kind> RULED_OUT = EnumSet.of(
            Tree.Kind.LAMBDA_EXPRESSION, Tree.Kind.MEMBER_REFERENCE, Tree.Kind.THROW, Tree.Kind.TRY, Tree.Kind.CATCH,
            Tree.Kind.SYNCHRONIZED, Tree.Kind.ASSERT, Tree.Kind.SWITCH_EXPRESSION, Tree.Kind.TYPE_CAST,
            Tree.Kind.INSTANCE_OF, Tree.Kind.ANNOTATION, Tree.Kind.IMPORT, Tree.Kind.PACKAGE, Tree.Kind.STRING_LITERAL,
            Tree.Kind.WHILE_LOOP, Tree.Kind.DO_WHILE_LOOP, Tree.Kind.ENHANCED_FOR_LOOP, Tree.Kind.NULL_LITERAL);

    private final Trees trees;
    private final CompilationUnitTree unit;
    private final Map<ExecutableElement, Set<ExecutableElement>> calls = new LinkedHashMap<>();
    private final Set<Tree.Kind> seen = EnumSet.noneOf(Tree.Kind.class);
    private int wrong = 0;

    private LanguageTrees(Trees trees, CompilationUnitTree unit) {
        this.trees = trees;
        this.unit = unit;
    }

    private void ask(boolean holds, int rule, Tree at, String what) {
        if (holds) return;
        wrong++;
        System.out.println("rule " + rule + ", line " + line(at, false) + ": " + what);
    }

    private long line(Tree tree, boolean last) {
        SourcePositions places = trees.getSourcePositions();
        long at = last ? places.getEndPosition(unit, tree) : places.getStartPosition(unit, tree);
        return unit.getLineMap().getLineNumber(at);
    }

    private Element element(Tree tree) {
        return trees.getElement(TreePath.getPath(unit, tree));
    }

    /** The method or constructor that the place is in, null in a field's initialiser. */
    private MethodTree method() {
        for (Tree each : getCurrentPath()) {
            if (each instanceof MethodTree) return (MethodTree) each;
        }
        return null;
    }

    @Override
    public Void scan(Tree tree, Void nothing) {
        if (tree != null) {
            seen.add(tree.getKind());
            ask(!RULED_OUT.contains(tree.getKind()), 6, tree, tree.getKind() + " stands in the class");
        }
        return super.scan(tree, nothing);
    }

    @Override
    public Void visitClass(ClassTree tree, Void nothing) {
        Element element = element(tree);
        ask(element.getEnclosingElement().getKind() != ElementKind.METHOD && tree.getSimpleName().length() > 0, 2, tree,
                "a class within a method");
        for (Tree member : tree.getMembers()) {
            ask(!(member instanceof BlockTree), 5, member, "a block that stands in no method");
        }
        return super.visitClass(tree, nothing);
    }

    @Override
    public Void visitModifiers(ModifiersTree tree, Void nothing) {
        ask(MODIFIERS.containsAll(tree.getFlags()), 6, tree, "one of the modifiers " + tree.getFlags());
        return super.visitModifiers(tree, nothing);
    }

    @Override
    public Void visitVariable(VariableTree tree, Void nothing) {
        VariableElement element = (VariableElement) element(tree);
        ask(TYPES.contains(element.asType().toString()), 3, tree, "the type " + element.asType());
        if (element.getModifiers().contains(Modifier.STATIC)) {
            ask(element.getConstantValue() != null, 5, tree, element + " is static and no constant");
        }
        return super.visitVariable(tree, nothing);
    }

    @Override
    public Void visitMethod(MethodTree tree, Void nothing) {
        ExecutableElement element = (ExecutableElement) element(tree);
        calls.computeIfAbsent(element, key -> new LinkedHashSet<>());
        ask(TYPES.contains(element.getReturnType().toString()), 3, tree, "the type " + element.getReturnType());
        ask(!Set.of("equals", "hashCode", "toString").contains(tree.getName().toString()), 6, tree, "a " + element);
        ask(line(tree, true) - line(tree, false) < MOST_LINES, 11, tree, element + " has more than " + MOST_LINES + " lines");
        return super.visitMethod(tree, nothing);
    }

    private void called(ExecutableElement callee, Tree at) {
        String name = callee.getEnclosingElement().getSimpleName() + "." + callee.getSimpleName();
        boolean isOwn = callee.getEnclosingElement().toString().startsWith("CoreRope");
        ask(isOwn || LIBRARY.contains(name), 4, at, name + " is not of the library that is allowed");
        if (isOwn && method() != null) {
            calls.computeIfAbsent((ExecutableElement) element(method()), key -> new LinkedHashSet<>()).add(callee);
        }
    }

    @Override
    public Void visitMethodInvocation(MethodInvocationTree tree, Void nothing) {
        called((ExecutableElement) element(tree), tree);
        return super.visitMethodInvocation(tree, nothing);
    }

    private void made(Tree tree) {
        ask(method() == null || method().getReturnType() == null, 12, tree, "made in a method that is no constructor");
    }

    @Override
    public Void visitNewClass(NewClassTree tree, Void nothing) {
        made(tree);
        called((ExecutableElement) element(tree), tree);
        return super.visitNewClass(tree, nothing);
    }

    @Override
    public Void visitNewArray(NewArrayTree tree, Void nothing) {
        made(tree);
        for (ExpressionTree length : tree.getDimensions()) {
            ask(constant(length) >= 0, 7, tree, "the length " + length + " is no constant");
        }
        return super.visitNewArray(tree, nothing);
    }

    /** The constant that the expression is, or -1. */
    private int constant(ExpressionTree tree) {
        Object value = tree instanceof LiteralTree ? ((LiteralTree) tree).getValue() : null;
        if (tree instanceof IdentifierTree) value = ((VariableElement) element(tree)).getConstantValue();
        return value instanceof Integer ? (Integer) value : -1;
    }

    @Override
    public Void visitBinary(BinaryTree tree, Void nothing) {
        if (tree.getKind() == Tree.Kind.DIVIDE || tree.getKind() == Tree.Kind.REMAINDER) {
            ExpressionTree divisor = tree.getRightOperand();
            // The number of sets is 1 to 3 in every rope: begin lets no other one through.
            ask(constant(divisor) > 0 || divisor.toString().equals("sets"), 7, tree, "the divisor " + divisor);
        }
        return super.visitBinary(tree, nothing);
    }

    @Override
    public Void visitCompoundAssignment(CompoundAssignmentTree tree, Void nothing) {
        ask(tree.getKind() != Tree.Kind.DIVIDE_ASSIGNMENT && tree.getKind() != Tree.Kind.REMAINDER_ASSIGNMENT, 7, tree,
                "a divisor that is not looked at");
        return super.visitCompoundAssignment(tree, nothing);
    }

    /** Loops count a variable of their own up by one to a bound, and nothing else sets it. */
    @Override
    public Void visitForLoop(ForLoopTree tree, Void nothing) {
        boolean hasCounter = tree.getInitializer().size() == 1 && tree.getInitializer().get(0) instanceof VariableTree;
        ask(hasCounter, 9, tree, "a loop without a counter");
        if (hasCounter) {
            String counter = ((VariableTree) tree.getInitializer().get(0)).getName().toString();
            ask(bounds(tree.getCondition(), counter), 9, tree, "a loop without a bound for " + counter);
            ask(tree.getUpdate().size() == 1 && tree.getUpdate().get(0).toString().equals(counter + "++;"), 9, tree,
                    "a loop that does not count " + counter + " up by one");
            ask(!tree.getStatement().toString().matches("(?s).*\\b" + counter + "\\b\\s*(\\+\\+|--|([-+*/%&|^]|<<|>>>?)?=[^=]).*"), 9,
                    tree, "a loop that sets " + counter);
        }
        return super.visitForLoop(tree, nothing);
    }

    private boolean bounds(ExpressionTree condition, String counter) {
        if (!(condition instanceof BinaryTree)) return false;
        BinaryTree both = (BinaryTree) condition;
        if (both.getKind() == Tree.Kind.CONDITIONAL_AND) {
            return bounds(both.getLeftOperand(), counter) || bounds(both.getRightOperand(), counter);
        }
        boolean isBound = both.getKind() == Tree.Kind.LESS_THAN || both.getKind() == Tree.Kind.LESS_THAN_EQUAL;
        return isBound && both.getLeftOperand().toString().equals(counter);
    }

    /** The dearest chain of calls that begins with this one, its own level included. */
    private int depth(ExecutableElement method, Deque<ExecutableElement> open) {
        if (open.contains(method)) {
            wrong++;
            System.out.println("rule 8: " + method + " calls itself");
            return 0;
        }
        open.push(method);
        int deepest = 0;
        for (ExecutableElement callee : calls.getOrDefault(method, Set.of())) {
            deepest = Math.max(deepest, depth(callee, open));
        }
        open.pop();
        return deepest + 1;
    }

    private int lookAtDepth() {
        int deepest = 0;
        for (ExecutableElement method : calls.keySet()) {
            int depth = depth(method, new ArrayDeque<>());
            deepest = Math.max(deepest, depth);
            if (depth > MOST_DEPTH) {
                wrong++;
                System.out.println("rule 11: calls go " + depth + " deep from " + method);
            }
        }
        return deepest;
    }

    public static void main(String[] args) throws IOException {
        JavaCompiler compiler = ToolProvider.getSystemJavaCompiler();
        StandardJavaFileManager files = compiler.getStandardFileManager(null, null, null);
        JavacTask task = (JavacTask) compiler.getTask(null, files, null, List.of("--release", "17", "-proc:none"), null,
                files.getJavaFileObjects(SOURCE));
        CompilationUnitTree unit = task.parse().iterator().next();
        task.analyze();
        LanguageTrees test = new LanguageTrees(Trees.instance(task), unit);
        test.scan(unit, null);
        int deepest = test.lookAtDepth();
        boolean looked = test.calls.size() > 28 && test.seen.contains(Tree.Kind.FOR_LOOP) && deepest > 2;
        System.out.println(test.calls.size() + " methods, calls at most " + deepest + " deep, " + test.wrong + " rules not held");
        if (test.wrong != 0 || !looked) System.exit(1);
    }
}
