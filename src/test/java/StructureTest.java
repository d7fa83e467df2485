import com.sun.source.tree.ArrayAccessTree;
import com.sun.source.tree.AssignmentTree;
import com.sun.source.tree.BinaryTree;
import com.sun.source.tree.ClassTree;
import com.sun.source.tree.CompilationUnitTree;
import com.sun.source.tree.CompoundAssignmentTree;
import com.sun.source.tree.DoWhileLoopTree;
import com.sun.source.tree.ExpressionTree;
import com.sun.source.tree.ForLoopTree;
import com.sun.source.tree.IdentifierTree;
import com.sun.source.tree.LiteralTree;
import com.sun.source.tree.MemberSelectTree;
import com.sun.source.tree.MethodInvocationTree;
import com.sun.source.tree.MethodTree;
import com.sun.source.tree.NewArrayTree;
import com.sun.source.tree.NewClassTree;
import com.sun.source.tree.ParenthesizedTree;
import com.sun.source.tree.ThrowTree;
import com.sun.source.tree.Tree;
import com.sun.source.tree.TypeCastTree;
import com.sun.source.tree.UnaryTree;
import com.sun.source.tree.WhileLoopTree;
import com.sun.source.util.JavacTask;
import com.sun.source.util.TreePath;
import com.sun.source.util.TreePathScanner;
import com.sun.source.util.TreeScanner;
import com.sun.source.util.Trees;
import java.io.IOException;
import java.nio.file.Path;
import java.util.HashMap;
import java.util.HashSet;
import java.util.List;
import java.util.Map;
import java.util.Set;
import java.util.TreeSet;
import javax.lang.model.element.Element;
import javax.lang.model.element.ElementKind;
import javax.lang.model.element.ExecutableElement;
import javax.lang.model.element.Modifier;
import javax.lang.model.element.VariableElement;
import javax.lang.model.type.TypeKind;
import javax.tools.JavaCompiler;
import javax.tools.StandardJavaFileManager;
import javax.tools.ToolProvider;

/**
 * The rules of ../shared/LANGUAGE.md that javac's tree of the program shows: what calls what, what loops
 * end by, what is made, thrown, divided and cast. It is stricter than the rules where the program is.
 */
public final class StructureTest extends TreePathScanner<Void, Void> {
    private static final Path PROGRAM = Path.of("src/main/java/NotchedKeys.java");
    private static final int DEEPEST_CALL = 8;

    /** What the program uses of rule 4's list; a method that is new here must be one of that list. */
    private static final Set<String> LIBRARY = Set.of("Math.max(int,int)", "Math.abs(int)", "Integer.bitCount(int)",
            "System.arraycopy(java.lang.Object,int,java.lang.Object,int,int)", "Arrays.fill(int[],int)");

    private final Check check = new Check();
    private final Trees trees;
    private final Map<Element, Set<Element>> calls = new HashMap<>();
    private final Map<Element, Integer> depths = new HashMap<>();
    private final Set<Element> open = new HashSet<>();
    private final Set<String> used = new TreeSet<>();
    private int loops;

    private StructureTest(Trees trees) {
        this.trees = trees;
    }

    public static void main(String[] args) throws IOException {
        JavaCompiler compiler = ToolProvider.getSystemJavaCompiler();
        try (StandardJavaFileManager files = compiler.getStandardFileManager(null, null, null)) {
            JavacTask task = (JavacTask) compiler.getTask(null, files, null, List.of("-proc:none"), null,
                    files.getJavaFileObjects(PROGRAM));
            Iterable<? extends CompilationUnitTree> units = task.parse();
            task.analyze();
            StructureTest test = new StructureTest(Trees.instance(task));
            for (CompilationUnitTree unit : units) {
                test.check.due("classes beside each other", unit.getTypeDecls().size(), 1);
                test.scan(unit, null);
            }
            test.end();
        }
    }

    private void end() {
        int deepest = 0;
        for (Element method : calls.keySet()) {
            deepest = Math.max(deepest, depth(method));
        }
        check.dueTrue("calls go at most " + DEEPEST_CALL + " deep, not " + deepest, deepest <= DEEPEST_CALL);
        check.due("methods of the library", used.toString(), new TreeSet<>(LIBRARY).toString());
        check.dueTrue("the tree was read: " + calls.size() + " methods", calls.size() > 100);
        check.dueTrue("the tree was read: " + loops + " loops", loops > 40);
        check.end();
    }

    // ---- rules 8 and 11: no recursion, and calls at most eight deep

    /** How many calls stand open at most from this one on, with it. */
    private int depth(Element method) {
        if (depths.containsKey(method)) {
            return depths.get(method);
        }
        if (!open.add(method)) {
            check.due("a call of itself", method.toString(), "none");
            return 0;
        }
        int below = 0;
        for (Element called : calls.getOrDefault(method, Set.of())) {
            below = Math.max(below, depth(called));
        }
        open.remove(method);
        depths.put(method, below + 1);
        return below + 1;
    }

    /** The method round the place, or the class whose constructor does what is written beside its fields. */
    private Element caller() {
        TreePath path = getCurrentPath();
        while (!(path.getLeaf() instanceof MethodTree) && !(path.getLeaf() instanceof ClassTree)) {
            path = path.getParentPath();
        }
        return trees.getElement(path);
    }

    private Element element(Tree tree) {
        return trees.getElement(TreePath.getPath(getCurrentPath(), tree));
    }

    private static boolean isOwn(Element element) {
        Element outer = element;
        while (outer.getEnclosingElement() != null && outer.getEnclosingElement().getKind() != ElementKind.PACKAGE) {
            outer = outer.getEnclosingElement();
        }
        return outer.getSimpleName().contentEquals("NotchedKeys");
    }

    private void addCall(Element called) {
        calls.computeIfAbsent(caller(), key -> new HashSet<>()).add(called);
    }

    @Override
    public Void visitMethod(MethodTree method, Void none) {
        calls.computeIfAbsent(element(method), key -> new HashSet<>());
        return super.visitMethod(method, none);
    }

    @Override
    public Void visitMethodInvocation(MethodInvocationTree call, Void none) {
        ExecutableElement called = (ExecutableElement) element(call.getMethodSelect());
        if (isOwn(called)) {
            addCall(called);
        } else if (called.getKind() == ElementKind.METHOD) {
            used.add(called.getEnclosingElement().getSimpleName() + "." + called);
        }
        return super.visitMethodInvocation(call, none);
    }

    // ---- rules 6 and 12: what is made and thrown

    private boolean isInConstructorOrField() {
        Element caller = caller();
        return caller.getKind() == ElementKind.CONSTRUCTOR || caller.getKind() == ElementKind.CLASS;
    }

    @Override
    public Void visitNewClass(NewClassTree made, Void none) {
        Element constructor = element(made);
        if (isOwn(constructor)) {
            check.dueTrue(made + " is made by a constructor", isInConstructorOrField());
            addCall(constructor);
            addCall(constructor.getEnclosingElement());
        } else {
            boolean thrown = getCurrentPath().getParentPath().getLeaf() instanceof ThrowTree;
            check.dueTrue(made + " is thrown", thrown);
        }
        return super.visitNewClass(made, none);
    }

    @Override
    public Void visitNewArray(NewArrayTree made, Void none) {
        check.dueTrue(made + " is made by a constructor", isInConstructorOrField());
        return super.visitNewArray(made, none);
    }

    /** Only a call of the face throws, and its clause names the exception. */
    @Override
    public Void visitThrow(ThrowTree thrown, Void none) {
        Element caller = caller();
        check.dueTrue(caller + " throws", caller.getKind() == ElementKind.METHOD
                && caller.getModifiers().contains(Modifier.PUBLIC));
        String type = ((NewClassTree) thrown.getExpression()).getIdentifier().toString();
        boolean named = ((ExecutableElement) caller).getThrownTypes().stream()
                .anyMatch(declared -> declared.toString().endsWith("." + type));
        check.dueTrue(caller + " names " + type, named);
        return super.visitThrow(thrown, none);
    }

    // ---- rule 9: loops

    private void loop(ExpressionTree condition, Tree whole) {
        loops++;
        Set<String> bounded = new TreeSet<>();
        bounds(condition, bounded);
        bounded.retainAll(counted(whole));
        check.dueTrue("a counter against a bound ends " + condition, !bounded.isEmpty());
    }

    /** The names that are below something in all of the condition's parts that && holds together. */
    private static void bounds(ExpressionTree condition, Set<String> names) {
        ExpressionTree bare = condition instanceof ParenthesizedTree inside ? inside.getExpression() : condition;
        if (bare instanceof BinaryTree pair && pair.getKind() == Tree.Kind.CONDITIONAL_AND) {
            bounds(pair.getLeftOperand(), names);
            bounds(pair.getRightOperand(), names);
        }
        boolean isBound = bare.getKind() == Tree.Kind.LESS_THAN || bare.getKind() == Tree.Kind.LESS_THAN_EQUAL;
        if (isBound && ((BinaryTree) bare).getLeftOperand() instanceof IdentifierTree name) {
            names.add(name.getName().toString());
        } else if (isBound) {
            names.add(((BinaryTree) bare).getLeftOperand().toString().replace(" + 1", ""));
        }
    }

    /** The names that ++ counts in the loop. */
    private static Set<String> counted(Tree whole) {
        Set<String> names = new TreeSet<>();
        new TreeScanner<Void, Void>() {
            @Override
            public Void visitUnary(UnaryTree step, Void none) {
                if (step.getKind() == Tree.Kind.POSTFIX_INCREMENT) {
                    names.add(step.getExpression().toString());
                }
                return super.visitUnary(step, none);
            }
        }.scan(whole, null);
        return names;
    }

    @Override
    public Void visitForLoop(ForLoopTree loop, Void none) {
        check.dueTrue("a loop has a condition", loop.getCondition() != null);
        if (loop.getCondition() != null) {
            loop(loop.getCondition(), loop);
        }
        return super.visitForLoop(loop, none);
    }

    @Override
    public Void visitWhileLoop(WhileLoopTree loop, Void none) {
        loop(loop.getCondition(), loop);
        return super.visitWhileLoop(loop, none);
    }

    @Override
    public Void visitDoWhileLoop(DoWhileLoopTree loop, Void none) {
        loop(loop.getCondition(), loop);
        return super.visitDoWhileLoop(loop, none);
    }

    // ---- rules 3 and 7: divisors and casts

    private boolean isOfKind(Tree tree, TypeKind... kinds) {
        TypeKind kind = trees.getTypeMirror(TreePath.getPath(getCurrentPath(), tree)).getKind();
        return List.of(kinds).contains(kind);
    }

    /** A divisor is a constant but 0, one of NOTCH_WEIGHTS, or one that its method looks at by "> 0" or "<= 0". */
    @Override
    public Void visitBinary(BinaryTree pair, Void none) {
        boolean divides = pair.getKind() == Tree.Kind.DIVIDE || pair.getKind() == Tree.Kind.REMAINDER;
        if (divides) {
            check.dueTrue("the divisor of " + pair + " is not 0", isSafeDivisor(pair.getRightOperand()));
        }
        if (pair.getKind() == Tree.Kind.REMAINDER) {
            check.dueTrue(pair + " is of integers", isOfKind(pair, TypeKind.INT, TypeKind.LONG));
        }
        return super.visitBinary(pair, none);
    }

    private boolean isSafeDivisor(ExpressionTree divisor) {
        ExpressionTree bare = divisor instanceof TypeCastTree cast ? cast.getExpression() : divisor;
        if (bare instanceof LiteralTree literal) {
            return ((Number) literal.getValue()).doubleValue() != 0.0;
        }
        if (element(bare) instanceof VariableElement named && named.getConstantValue() instanceof Integer number) {
            return number != 0;
        }
        String name = bare.toString();
        Tree method = trees.getTree(caller());
        boolean looked = method.toString().contains(name + " > 0") || method.toString().contains(name + " <= 0");
        return looked || name.equals("NOTCH_WEIGHTS[notch]");
    }

    @Override
    public Void visitCompoundAssignment(CompoundAssignmentTree change, Void none) {
        boolean divides = change.getKind() == Tree.Kind.DIVIDE_ASSIGNMENT
                || change.getKind() == Tree.Kind.REMAINDER_ASSIGNMENT;
        check.due(change + " divides", Boolean.toString(divides), "false");
        boolean joins = isOfKind(change.getVariable(), TypeKind.DECLARED);
        check.due(change + " joins texts", Boolean.toString(joins), "false");
        return super.visitCompoundAssignment(change, none);
    }

    @Override
    public Void visitTypeCast(TypeCastTree cast, Void none) {
        check.dueTrue(cast + " is of numbers", isOfKind(cast, TypeKind.INT, TypeKind.LONG, TypeKind.CHAR,
                TypeKind.DOUBLE, TypeKind.FLOAT));
        return super.visitTypeCast(cast, none);
    }

    // ---- rule 5: constant rows stay as they are

    @Override
    public Void visitAssignment(AssignmentTree change, Void none) {
        if (change.getVariable() instanceof ArrayAccessTree place) {
            ExpressionTree row = place.getExpression();
            boolean isRow = row instanceof IdentifierTree || row instanceof MemberSelectTree;
            check.dueTrue(row + " is a row by its name", isRow);
            boolean isConstant = element(row).getModifiers().contains(Modifier.STATIC);
            check.due(row + " is a constant row", Boolean.toString(isConstant), "false");
        }
        return super.visitAssignment(change, none);
    }
}
