import com.sun.source.tree.ArrayAccessTree;
import com.sun.source.tree.AssertTree;
import com.sun.source.tree.BinaryTree;
import com.sun.source.tree.BlockTree;
import com.sun.source.tree.ClassTree;
import com.sun.source.tree.CompilationUnitTree;
import com.sun.source.tree.CompoundAssignmentTree;
import com.sun.source.tree.ConditionalExpressionTree;
import com.sun.source.tree.DoWhileLoopTree;
import com.sun.source.tree.ExpressionTree;
import com.sun.source.tree.ForLoopTree;
import com.sun.source.tree.ImportTree;
import com.sun.source.tree.InstanceOfTree;
import com.sun.source.tree.LambdaExpressionTree;
import com.sun.source.tree.LiteralTree;
import com.sun.source.tree.MemberReferenceTree;
import com.sun.source.tree.MethodInvocationTree;
import com.sun.source.tree.MethodTree;
import com.sun.source.tree.NewArrayTree;
import com.sun.source.tree.NewClassTree;
import com.sun.source.tree.SynchronizedTree;
import com.sun.source.tree.ThrowTree;
import com.sun.source.tree.Tree;
import com.sun.source.tree.TryTree;
import com.sun.source.tree.TypeCastTree;
import com.sun.source.tree.VariableTree;
import com.sun.source.tree.WhileLoopTree;
import com.sun.source.util.JavacTask;
import com.sun.source.util.TreePath;
import com.sun.source.util.TreePathScanner;
import com.sun.source.util.Trees;
import java.io.IOException;
import java.nio.file.Files;
import java.nio.file.Path;
import java.util.HashMap;
import java.util.HashSet;
import java.util.List;
import java.util.Map;
import java.util.Set;
import java.util.TreeMap;
import java.util.TreeSet;
import javax.lang.model.element.Element;
import javax.lang.model.element.ElementKind;
import javax.lang.model.element.ExecutableElement;
import javax.lang.model.element.Modifier;
import javax.lang.model.type.ArrayType;
import javax.lang.model.type.TypeKind;
import javax.lang.model.type.TypeMirror;
import javax.tools.JavaCompiler;
import javax.tools.StandardJavaFileManager;
import javax.tools.ToolProvider;

/**
 * The rules of LANGUAGE.md on the tree of the class, as javac reads it; rule 1 is FaceTest's, and what rule 7 asks for is
 * looked at by RunsTest too. Runs in the project's folder.
 */
public final class LanguageTest extends TreePathScanner<Void, Void> {
    private static final Check CHECK = new Check("LanguageTest");
    private static final String SOURCE = "src/main/java/RopeRooms.java";
    /** Rule 4: what the class takes of the library, all of it listed there. */
    private static final Set<String> LIBRARY = Set.of("java.lang.Math.max", "java.lang.Math.min", "java.lang.Math.abs",
        "java.lang.Integer.signum", "java.lang.System.arraycopy");
    /** Rule 12: where objects are made, but for the fields' and constructors' own. */
    private static final Set<String> MAKERS = Set.of("RopeRooms.newRule", "RopeRooms.rope");
    private static final int LINES = 60;
    private static final int DEEPEST = 8;

    private final CompilationUnitTree unit;
    private final Trees trees;
    private final Map<String, Set<String>> calls = new TreeMap<>();
    private final Map<String, Integer> fields = new TreeMap<>();
    private int classes;
    private int loops;

    private LanguageTest(CompilationUnitTree unit, Trees trees) {
        this.unit = unit;
        this.trees = trees;
    }

    public static void main(String[] args) throws IOException {
        JavaCompiler compiler = ToolProvider.getSystemJavaCompiler();
        try (StandardJavaFileManager files = compiler.getStandardFileManager(null, null, null)) {
            JavacTask task = (JavacTask) compiler.getTask(null, files, null, List.of("-proc:none"), null,
                files.getJavaFileObjects(SOURCE));
            CompilationUnitTree unit = task.parse().iterator().next();
            task.analyze();
            LanguageTest test = new LanguageTest(unit, Trees.instance(task));
            test.scan(unit, null);
            test.sizes();
            test.depth();
        }
        for (String line : Files.readAllLines(Path.of(SOURCE))) {
            CHECK.due("not too long: " + line, line.length() <= 130, true);
            CHECK.due("signs to 127: " + line, line.chars().allMatch(c -> c > 31 && c < 127), true);
        }
        CHECK.finish();
    }

    // ---- where we are

    private long line(Tree tree) {
        return unit.getLineMap().getLineNumber(trees.getSourcePositions().getStartPosition(unit, tree));
    }

    private long lastLine(Tree tree) {
        return unit.getLineMap().getLineNumber(trees.getSourcePositions().getEndPosition(unit, tree));
    }

    private void no(String what, Tree tree) {
        CHECK.due("rule " + what + " in line " + line(tree) + ": " + tree, true, false);
    }

    private void must(String what, Tree tree, boolean holds) {
        CHECK.due("rule " + what + " in line " + line(tree) + ": " + tree, holds, true);
    }

    private Element element(Tree tree) {
        return trees.getElement(new TreePath(getCurrentPath(), tree));
    }

    private TypeMirror type(Tree tree) {
        return trees.getTypeMirror(new TreePath(getCurrentPath(), tree));
    }

    /** The method round this place, as Class.method; a field's initialiser is in <init>. */
    private String here() {
        MethodTree method = null;
        for (Tree t : getCurrentPath()) {
            if (t instanceof MethodTree && method == null) {
                method = (MethodTree) t;
            }
            if (t instanceof ClassTree) {
                return ((ClassTree) t).getSimpleName() + "." + (method == null ? "<init>" : method.getName());
            }
        }
        return "";
    }

    private static boolean isOwn(TypeMirror type) {
        return type.getKind() == TypeKind.DECLARED && type.toString().startsWith("RopeRooms");
    }

    private static boolean isNumber(TypeMirror type) {
        return type.getKind() == TypeKind.INT || type.getKind() == TypeKind.LONG;
    }

    // ---- rule 2

    @Override
    public Void visitClass(ClassTree tree, Void none) {
        classes++;
        Element self = trees.getElement(getCurrentPath());
        boolean top = self.getEnclosingElement().getKind() == ElementKind.PACKAGE;
        must("2: a class within the class itself", tree, top || self.getEnclosingElement().getKind() == ElementKind.CLASS);
        must("1: inside static", tree, top || self.getModifiers().contains(Modifier.STATIC));
        must("2: plain classes alone", tree, self.getKind() == ElementKind.CLASS && tree.getTypeParameters().isEmpty());
        return super.visitClass(tree, none);
    }

    @Override
    public Void visitLambdaExpression(LambdaExpressionTree tree, Void none) {
        no("2: no lambda", tree);
        return null;
    }

    @Override
    public Void visitMemberReference(MemberReferenceTree tree, Void none) {
        no("2: no method reference", tree);
        return null;
    }

    // ---- rules 3 and 5

    private static boolean isPlain(TypeMirror type) {
        return isNumber(type) || type.getKind() == TypeKind.BOOLEAN || isOwn(type);
    }

    private static boolean isAllowed(TypeMirror type) {
        if (type.getKind() != TypeKind.ARRAY) {
            return isPlain(type);
        }
        TypeMirror of = ((ArrayType) type).getComponentType();
        return of.getKind() == TypeKind.ARRAY ? isNumber(((ArrayType) of).getComponentType()) : isPlain(of);
    }

    @Override
    public Void visitVariable(VariableTree tree, Void none) {
        Element self = trees.getElement(getCurrentPath());
        must("3: a type of those", tree, isAllowed(self.asType()));
        if (self.getKind() == ElementKind.FIELD) {
            if (self.getModifiers().contains(Modifier.STATIC)) {
                boolean number = isNumber(self.asType()) && self.getModifiers().contains(Modifier.FINAL);
                must("5: a constant", tree, number && tree.getInitializer() != null);
            } else {
                fields.merge(self.getEnclosingElement().toString(), 1, Integer::sum);
            }
        }
        return super.visitVariable(tree, none);
    }

    @Override
    public Void visitBlock(BlockTree tree, Void none) {
        must("5: no initialiser block", tree, !(getCurrentPath().getParentPath().getLeaf() instanceof ClassTree));
        return super.visitBlock(tree, none);
    }

    @Override
    public Void visitImport(ImportTree tree, Void none) {
        must("4", tree, tree.getQualifiedIdentifier().toString().equals("java.util.NoSuchElementException"));
        return super.visitImport(tree, none);
    }

    // ---- rules 4 and 11

    @Override
    public Void visitMethod(MethodTree tree, Void none) {
        must("11: seven parameters at most", tree, tree.getParameters().size() <= 7);
        boolean made = lastLine(tree) < line(tree);
        must("11: short", tree, made || lastLine(tree) - line(tree) < LINES);
        TypeMirror back = ((ExecutableElement) trees.getElement(getCurrentPath())).getReturnType();
        must("3: a type of those", tree, back.getKind() == TypeKind.VOID || isAllowed(back));
        calls.computeIfAbsent(here(), k -> new TreeSet<>());
        return super.visitMethod(tree, none);
    }

    @Override
    public Void visitMethodInvocation(MethodInvocationTree tree, Void none) {
        Element called = element(tree.getMethodSelect());
        Element owner = called.getEnclosingElement();
        if (isOwn(owner.asType())) {
            calls.computeIfAbsent(here(), k -> new TreeSet<>()).add(owner.getSimpleName() + "." + called.getSimpleName());
        } else if (!called.getSimpleName().contentEquals("<init>")) {
            must("4", tree, LIBRARY.contains(owner + "." + called.getSimpleName()));
        }
        if (called.getSimpleName().contentEquals("arraycopy")) {
            TypeMirror from = type(tree.getArguments().get(0));
            must("4: arrays of numbers", tree, isNumber(((ArrayType) from).getComponentType()));
        }
        return super.visitMethodInvocation(tree, none);
    }

    private void sizes() {
        CHECK.due("rule 11: twelve classes at most, of " + classes, classes <= 12, true);
        for (Map.Entry<String, Integer> one : fields.entrySet()) {
            CHECK.due("rule 11: twenty fields at most: " + one, one.getValue() <= 20, true);
        }
        CHECK.due("loops were looked at", loops > 40, true);
        CHECK.due("methods were looked at", calls.size() > 100, true);
    }

    // ---- rules 8 and 11: who calls whom

    private Set<String> reached(String from) {
        Set<String> all = new HashSet<>();
        Set<String> fresh = new HashSet<>(calls.getOrDefault(from, Set.of()));
        while (!fresh.isEmpty()) {
            all.addAll(fresh);
            Set<String> more = new HashSet<>();
            for (String one : fresh) {
                more.addAll(calls.getOrDefault(one, Set.of()));
            }
            more.removeAll(all);
            fresh = more;
        }
        return all;
    }

    /** The longest chain of calls; those of a recursion are told by rule 8 and count for nothing here. */
    private void depth() {
        Map<String, Integer> known = new HashMap<>();
        Set<String> again = new TreeSet<>();
        for (String one : calls.keySet()) {
            if (reached(one).contains(one)) {
                again.add(one);
            }
        }
        for (String one : calls.keySet()) {
            CHECK.due("rule 11: calls eight deep at most: " + one, deep(one, again, known) <= DEEPEST, true);
        }
        Set<String> guarded = Set.of("Orders.goThrough", "Pails.findWays", "Pails.search", "Rule.atom", "Rule.condition",
            "Rule.nested", "Rule.sum", "Rule.unit");
        CHECK.due("rule 8: these call themselves, with their depth as an argument: " + again, again.equals(guarded), true);
    }

    private int deep(String one, Set<String> again, Map<String, Integer> known) {
        Integer have = known.get(one);
        if (have != null) {
            return have;
        }
        known.put(one, 0);
        int most = 0;
        for (String next : calls.getOrDefault(one, Set.of())) {
            most = Math.max(most, deep(next, again, known));
        }
        int own = again.contains(one) ? 0 : 1;
        known.put(one, most + own);
        return most + own;
    }

    // ---- rule 6

    @Override
    public Void visitThrow(ThrowTree tree, Void none) {
        must("6: one throw alone", tree, here().equals("RopeRooms.rope"));
        must("6: of the document's exception", tree, tree.getExpression() instanceof NewClassTree
            && ((NewClassTree) tree.getExpression()).getIdentifier().toString().equals("NoSuchElementException"));
        return super.visitThrow(tree, none);
    }

    @Override
    public Void visitTry(TryTree tree, Void none) {
        no("6: nothing to catch", tree);
        return null;
    }

    @Override
    public Void visitSynchronized(SynchronizedTree tree, Void none) {
        no("6: no synchronized", tree);
        return null;
    }

    @Override
    public Void visitAssert(AssertTree tree, Void none) {
        no("6: no assert", tree);
        return null;
    }

    @Override
    public Void visitInstanceOf(InstanceOfTree tree, Void none) {
        no("6: nothing to ask by instanceof", tree);
        return null;
    }

    @Override
    public Void visitTypeCast(TypeCastTree tree, Void none) {
        must("7: casts of numbers alone", tree, isNumber(type(tree.getType())) && isNumber(type(tree.getExpression())));
        return super.visitTypeCast(tree, none);
    }

    // ---- rule 7

    @Override
    public Void visitBinary(BinaryTree tree, Void none) {
        if (tree.getKind() == Tree.Kind.DIVIDE || tree.getKind() == Tree.Kind.REMAINDER) {
            must("7: the divisor is looked at", tree, isNotZero(tree.getRightOperand()) || isTested(tree.getRightOperand()));
        }
        must("10: no texts joined", tree, !type(tree).toString().equals("java.lang.String"));
        return super.visitBinary(tree, none);
    }

    @Override
    public Void visitCompoundAssignment(CompoundAssignmentTree tree, Void none) {
        if (tree.getKind() == Tree.Kind.DIVIDE_ASSIGNMENT || tree.getKind() == Tree.Kind.REMAINDER_ASSIGNMENT) {
            must("7: the divisor is looked at", tree, isNotZero(tree.getExpression()));
        }
        return super.visitCompoundAssignment(tree, none);
    }

    private boolean isNotZero(ExpressionTree divisor) {
        if (divisor instanceof LiteralTree) {
            return !((LiteralTree) divisor).getValue().equals(0);
        }
        Element self = element(divisor);
        if (!(self instanceof javax.lang.model.element.VariableElement)) {
            return false;
        }
        Object constant = ((javax.lang.model.element.VariableElement) self).getConstantValue();
        return constant != null && !constant.equals(0) && !constant.equals(0L);
    }

    /** The division is the second way of a choice whose question is whether the divisor is 0. */
    private boolean isTested(ExpressionTree divisor) {
        Tree round = getCurrentPath().getParentPath().getLeaf();
        if (!(round instanceof ConditionalExpressionTree)) {
            return false;
        }
        ConditionalExpressionTree choice = (ConditionalExpressionTree) round;
        return choice.getFalseExpression() == getCurrentPath().getLeaf()
            && choice.getCondition().toString().equals(divisor + " == 0");
    }

    @Override
    public Void visitArrayAccess(ArrayAccessTree tree, Void none) {
        must("7: an index is an int", tree, type(tree.getIndex()).getKind() == TypeKind.INT);
        return super.visitArrayAccess(tree, none);
    }

    // ---- rule 9

    @Override
    public Void visitForLoop(ForLoopTree tree, Void none) {
        loops++;
        must("9: a loop's end is seen", tree, tree.getCondition() != null && !tree.getUpdate().isEmpty());
        return super.visitForLoop(tree, none);
    }

    @Override
    public Void visitWhileLoop(WhileLoopTree tree, Void none) {
        loops++;
        String asked = tree.getCondition().toString();
        must("9: a counter against a bound", tree, asked.contains("at < length") && tree.getStatement().toString()
            .contains("at++"));
        return super.visitWhileLoop(tree, none);
    }

    @Override
    public Void visitDoWhileLoop(DoWhileLoopTree tree, Void none) {
        no("9: no such loop here", tree);
        return null;
    }

    // ---- rule 12

    @Override
    public Void visitNewClass(NewClassTree tree, Void none) {
        must("2: no class without a name", tree, tree.getClassBody() == null);
        must("12: made there", tree, here().endsWith(".<init>") || MAKERS.contains(here()));
        return super.visitNewClass(tree, none);
    }

    @Override
    public Void visitNewArray(NewArrayTree tree, Void none) {
        must("12: rows are made with their object", tree, here().endsWith(".<init>"));
        for (ExpressionTree size : tree.getDimensions()) {
            must("7: a length that is a constant", tree, isConstant(size));
        }
        return super.visitNewArray(tree, none);
    }

    private boolean isConstant(ExpressionTree size) {
        if (size instanceof BinaryTree) {
            BinaryTree two = (BinaryTree) size;
            return two.getKind() == Tree.Kind.PLUS && isConstant(two.getLeftOperand()) && isConstant(two.getRightOperand());
        }
        return isNotZero(size);
    }
}
