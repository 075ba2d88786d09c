import com.sun.source.tree.BinaryTree;
import com.sun.source.tree.ClassTree;
import com.sun.source.tree.CompilationUnitTree;
import com.sun.source.tree.ConditionalExpressionTree;
import com.sun.source.tree.DoWhileLoopTree;
import com.sun.source.tree.ExpressionTree;
import com.sun.source.tree.ForLoopTree;
import com.sun.source.tree.LiteralTree;
import com.sun.source.tree.MethodInvocationTree;
import com.sun.source.tree.MethodTree;
import com.sun.source.tree.NewArrayTree;
import com.sun.source.tree.NewClassTree;
import com.sun.source.tree.Tree;
import com.sun.source.tree.TypeCastTree;
import com.sun.source.tree.VariableTree;
import com.sun.source.tree.WhileLoopTree;
import com.sun.source.util.JavacTask;
import com.sun.source.util.TreePath;
import com.sun.source.util.TreePathScanner;
import com.sun.source.util.Trees;
import java.nio.file.Path;
import java.util.EnumSet;
import java.util.HashMap;
import java.util.HashSet;
import java.util.List;
import java.util.Map;
import java.util.Set;
import java.util.TreeSet;
import javax.lang.model.element.Element;
import javax.lang.model.element.ElementKind;
import javax.lang.model.element.Modifier;
import javax.lang.model.element.VariableElement;
import javax.tools.JavaCompiler;
import javax.tools.StandardJavaFileManager;
import javax.tools.ToolProvider;

/** Those rules of LANGUAGE.md that can be seen from the syntax tree of the source. A row that fails tells the rule. */
public final class LanguageTest extends TreePathScanner<Void, Void> {
    private static final int MOST_PARAMETERS = 7, MOST_LINES = 60, MOST_DEEP = 8, MOST_CLASSES = 12, MOST_FIELDS = 20;
    private static final Set<Tree.Kind> RULED_OUT = EnumSet.of(Tree.Kind.THROW, Tree.Kind.TRY, Tree.Kind.SYNCHRONIZED,
        Tree.Kind.ASSERT, Tree.Kind.LAMBDA_EXPRESSION, Tree.Kind.MEMBER_REFERENCE, Tree.Kind.IMPORT, Tree.Kind.PACKAGE,
        Tree.Kind.FLOAT_LITERAL, Tree.Kind.DOUBLE_LITERAL);
    /** What the class uses of rule 4; a call that is added there must be allowed by it, then it is added here. */
    private static final Set<String> LIBRARY = Set.of("java.lang.Integer.bitCount", "java.lang.Math.min",
        "java.lang.String.indexOf", "java.lang.Object.<init>");
    private static final Set<String> CONSTANT_TYPES = Set.of("int", "long", "boolean", "char", "java.lang.String", "int[]",
        "long[]", "char[]", "byte[]");

    private final Trees trees;
    private final CompilationUnitTree unit;
    private final Map<Element, Set<Element>> calls = new HashMap<>();
    private int classes = 0;
    private Element caller = null;

    private LanguageTest(Trees trees, CompilationUnitTree unit) {
        this.trees = trees;
        this.unit = unit;
    }

    public static void main(String[] args) throws Exception {
        JavaCompiler compiler = ToolProvider.getSystemJavaCompiler();
        try (StandardJavaFileManager files = compiler.getStandardFileManager(null, null, null)) {
            JavacTask task = (JavacTask) compiler.getTask(null, files, null, List.of("-proc:none"), null,
                files.getJavaFileObjects(Path.of("src/main/java/ClappedWrong.java")));
            CompilationUnitTree unit = task.parse().iterator().next();
            task.analyze();
            LanguageTest look = new LanguageTest(Trees.instance(task), unit);
            look.scan(unit, null);
            look.callsAreShallow();
        }
        Due.end();
    }

    private String at(Tree tree) {
        long start = trees.getSourcePositions().getStartPosition(unit, tree);
        return " (line " + unit.getLineMap().getLineNumber(start) + ")";
    }

    private long lines(Tree tree) {
        long first = unit.getLineMap().getLineNumber(trees.getSourcePositions().getStartPosition(unit, tree));
        return unit.getLineMap().getLineNumber(trees.getSourcePositions().getEndPosition(unit, tree)) - first + 1;
    }

    private Element element(Tree tree) {
        return trees.getElement(TreePath.getPath(unit, tree));
    }

    /** The number that an expression always is; null: it may be one or another. */
    private Long constant(ExpressionTree tree) {
        if (tree instanceof LiteralTree literal && literal.getValue() instanceof Number number) {
            return number.longValue();
        }
        return element(tree) instanceof VariableElement field && field.getConstantValue() instanceof Number number
            ? Long.valueOf(number.longValue()) : null;
    }

    @Override
    public Void scan(Tree tree, Void none) {
        if (tree != null) {
            Due.due("rule 6: no " + tree.getKind() + at(tree), !RULED_OUT.contains(tree.getKind()));
        }
        return super.scan(tree, none);
    }

    @Override
    public Void visitClass(ClassTree tree, Void none) {
        classes++;
        Due.due("rule 11: classes" + at(tree), classes <= MOST_CLASSES);
        Element own = element(tree);
        boolean inside = own.getEnclosingElement().getKind() == ElementKind.CLASS;
        Due.due("rule 2: a class inside is static" + at(tree),
            inside ? own.getModifiers().contains(Modifier.STATIC) : own.getModifiers().contains(Modifier.PUBLIC));
        int fields = 0;
        for (Tree member : tree.getMembers()) {
            if (member instanceof VariableTree field) {
                fields += isConstant(field) ? 0 : 1;
            }
            Due.due("rule 5: no initialiser block" + at(member), member.getKind() != Tree.Kind.BLOCK);
        }
        Due.due("rule 11: fields" + at(tree), fields <= MOST_FIELDS);
        return super.visitClass(tree, none);
    }

    private boolean isConstant(VariableTree field) {
        Element own = element(field);
        if (!own.getModifiers().contains(Modifier.STATIC)) {
            return false;
        }
        Due.due("rule 5: static is final" + at(field), own.getModifiers().contains(Modifier.FINAL));
        Due.due("rule 5: " + own.asType() + at(field), CONSTANT_TYPES.contains(own.asType().toString()));
        return true;
    }

    @Override
    public Void visitMethod(MethodTree tree, Void none) {
        caller = element(tree);
        calls.putIfAbsent(caller, new HashSet<>());
        Due.due("rule 11: parameters" + at(tree), tree.getParameters().size() <= MOST_PARAMETERS);
        Due.due("rule 11: lines" + at(tree), lines(tree) <= MOST_LINES);
        super.visitMethod(tree, none);
        caller = null;
        return null;
    }

    @Override
    public Void visitMethodInvocation(MethodInvocationTree tree, Void none) {
        called(element(tree), tree);
        return super.visitMethodInvocation(tree, none);
    }

    @Override
    public Void visitNewClass(NewClassTree tree, Void none) {
        Due.due("rule 2: no anonymous class" + at(tree), tree.getClassBody() == null);
        called(element(tree), tree);
        return super.visitNewClass(tree, none);
    }

    private void called(Element callee, Tree tree) {
        Element home = callee.getEnclosingElement();
        if (home.toString().startsWith("ClappedWrong")) {
            Due.due("a call stands in a method" + at(tree), caller != null);
            if (caller != null) {
                calls.get(caller).add(callee);
            }
        } else {
            String name = home + "." + callee.getSimpleName();
            Due.due("rule 4: " + name + at(tree), LIBRARY.contains(name));
        }
    }

    @Override
    public Void visitNewArray(NewArrayTree tree, Void none) {
        for (ExpressionTree length : tree.getDimensions()) {
            Long number = constant(length);
            Due.due("rule 7: the length of a new array is a constant" + at(tree), number != null && number >= 0);
        }
        return super.visitNewArray(tree, none);
    }

    @Override
    public Void visitBinary(BinaryTree tree, Void none) {
        if (tree.getKind() == Tree.Kind.DIVIDE || tree.getKind() == Tree.Kind.REMAINDER) {
            Long number = constant(tree.getRightOperand());
            Due.due("rule 7: a divisor is looked at" + at(tree),
                number != null ? number != 0 : isTestedAbove(tree.getRightOperand().toString()));
        }
        return super.visitBinary(tree, none);
    }

    /** Whether it stands in "name > 0 ? here : .." */
    private boolean isTestedAbove(String name) {
        TreePath path = getCurrentPath();
        for (; path.getParentPath() != null; path = path.getParentPath()) {
            if (path.getParentPath().getLeaf() instanceof ConditionalExpressionTree choice
                && choice.getTrueExpression() == path.getLeaf()
                && choice.getCondition().toString().equals(name + " > 0")) {
                return true;
            }
        }
        return false;
    }

    @Override
    public Void visitTypeCast(TypeCastTree tree, Void none) {
        Due.due("rule 6: a cast of a number" + at(tree), tree.getType().getKind() == Tree.Kind.PRIMITIVE_TYPE);
        return super.visitTypeCast(tree, none);
    }

    @Override
    public Void visitForLoop(ForLoopTree tree, Void none) {
        Due.due("rule 9: a loop has a bound and a counter" + at(tree),
            tree.getCondition() instanceof BinaryTree && tree.getUpdate().size() == 1);
        return super.visitForLoop(tree, none);
    }

    @Override
    public Void visitWhileLoop(WhileLoopTree tree, Void none) {
        Due.due("rule 9: the class needs no while" + at(tree), false);
        return super.visitWhileLoop(tree, none);
    }

    @Override
    public Void visitDoWhileLoop(DoWhileLoopTree tree, Void none) {
        Due.due("rule 9: the class needs no do" + at(tree), false);
        return super.visitDoWhileLoop(tree, none);
    }

    private void callsAreShallow() {
        int deepest = 0;
        for (Element each : calls.keySet()) {
            deepest = Math.max(deepest, depth(each, new TreeSet<>()));
        }
        Due.due("rule 11: " + deepest + " deep", deepest > 1 && deepest <= MOST_DEEP);
    }

    private int depth(Element method, Set<String> open) {
        String name = method.getEnclosingElement() + "." + method;
        if (!open.add(name)) {
            Due.due("rule 8: no recursion: " + name, false);
            return 0;
        }
        int deepest = 0;
        for (Element callee : calls.getOrDefault(method, Set.of())) {
            deepest = Math.max(deepest, depth(callee, open));
        }
        open.remove(name);
        return deepest + 1;
    }
}
