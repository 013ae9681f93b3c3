import com.sun.source.tree.AssertTree;
import com.sun.source.tree.BinaryTree;
import com.sun.source.tree.CatchTree;
import com.sun.source.tree.ClassTree;
import com.sun.source.tree.CompilationUnitTree;
import com.sun.source.tree.DoWhileLoopTree;
import com.sun.source.tree.ExpressionTree;
import com.sun.source.tree.ForLoopTree;
import com.sun.source.tree.InstanceOfTree;
import com.sun.source.tree.LambdaExpressionTree;
import com.sun.source.tree.LiteralTree;
import com.sun.source.tree.MemberReferenceTree;
import com.sun.source.tree.MethodInvocationTree;
import com.sun.source.tree.MethodTree;
import com.sun.source.tree.NewClassTree;
import com.sun.source.tree.SynchronizedTree;
import com.sun.source.tree.ThrowTree;
import com.sun.source.tree.Tree;
import com.sun.source.tree.TypeCastTree;
import com.sun.source.tree.VariableTree;
import com.sun.source.tree.WhileLoopTree;
import com.sun.source.util.JavacTask;
import com.sun.source.util.TreePathScanner;
import com.sun.source.util.Trees;
import java.nio.file.Path;
import java.util.HashMap;
import java.util.HashSet;
import java.util.List;
import java.util.Map;
import java.util.Set;
import java.util.TreeSet;
import javax.lang.model.element.Element;
import javax.lang.model.element.ElementKind;
import javax.lang.model.element.Modifier;
import javax.lang.model.type.TypeKind;
import javax.lang.model.type.TypeMirror;
import javax.tools.JavaCompiler;
import javax.tools.StandardJavaFileManager;
import javax.tools.ToolProvider;

/** What of ../shared/LANGUAGE.md can be seen only from the parts of the program: types, calls, throws, loops. */
final class LanguageTreeTest extends TreePathScanner<Void, Void> {
    private static final int DEEPEST = 8;
    private static final Set<String> THROWN = Set.of("IllegalStateException", "IllegalArgumentException",
            "IndexOutOfBoundsException");
    private static final Set<String> LIBRARY = Set.of("java.util.Arrays.fill", "java.lang.Math.max",
            "java.lang.Math.min", "java.lang.Integer.bitCount");
    private static final Set<String> CONSTANTS = Set.of("int", "long", "boolean", "char", "java.lang.String");

    private final Trees trees;
    private final Map<Element, Set<Element>> calls = new HashMap<>();
    private int throwsSeen;
    private int loopsSeen;

    private LanguageTreeTest(Trees trees) {
        this.trees = trees;
    }

    public static void main(String[] args) throws Exception {
        JavaCompiler compiler = ToolProvider.getSystemJavaCompiler();
        try (StandardJavaFileManager files = compiler.getStandardFileManager(null, null, null)) {
            JavacTask task = (JavacTask) compiler.getTask(null, files, null, List.of("-proc:none"), null,
                    files.getJavaFileObjects(Path.of("src/main/java/RolloutHall.java")));
            Iterable<? extends CompilationUnitTree> units = task.parse();
            task.analyze();
            LanguageTreeTest test = new LanguageTreeTest(Trees.instance(task));
            test.scan(units, null);
            test.callsAreShallow();
            Check.due("throws were seen", test.throwsSeen > 0, true);
            Check.due("loops were seen", test.loopsSeen > 0, true);
        }
        Check.end();
    }

    private void isLeftOut(Tree tree, String what) {
        Check.due(what + ": " + tree, true, false);
    }

    private Element element(Tree tree) {
        return trees.getElement(trees.getPath(getCurrentPath().getCompilationUnit(), tree));
    }

    /** The method or constructor that holds what is looked at; none for a field's first value. */
    private MethodTree holder() {
        var path = getCurrentPath();
        while (path != null && !(path.getLeaf() instanceof MethodTree)) {
            path = path.getParentPath();
        }
        return path == null ? null : (MethodTree) path.getLeaf();
    }

    @Override
    public Void visitClass(ClassTree tree, Void none) {
        Tree outer = getCurrentPath().getParentPath().getLeaf();
        boolean isInside = outer instanceof ClassTree;
        Check.due(tree.getSimpleName() + " stands in the file or the class", isInside
                || outer instanceof CompilationUnitTree, true);
        Check.due(tree.getSimpleName() + " is static", isInside,
                tree.getModifiers().getFlags().contains(Modifier.STATIC));
        for (Tree member : tree.getMembers()) {
            if (member.getKind() == Tree.Kind.BLOCK) {
                isLeftOut(member, "a block of the class");
            }
        }
        return super.visitClass(tree, none);
    }

    @Override
    public Void visitMethod(MethodTree tree, Void none) {
        calls.putIfAbsent(element(tree), new HashSet<>());
        Check.due("annotations of " + tree.getName(), tree.getModifiers().getAnnotations().isEmpty(), true);
        return super.visitMethod(tree, none);
    }

    @Override
    public Void visitVariable(VariableTree tree, Void none) {
        Element variable = element(tree);
        TypeMirror type = variable.asType();
        if (variable.getModifiers().contains(Modifier.STATIC)) {
            Check.due(tree + " is a constant", variable.getModifiers().contains(Modifier.FINAL)
                    && CONSTANTS.contains(type.toString()), true);
        }
        Check.due(tree + " has a type of rule 3", isOfRule3(type.toString()), true);
        return super.visitVariable(tree, none);
    }

    private static boolean isOfRule3(String type) {
        String one = type.replaceFirst("\\[\\]$", "");
        boolean isPlain = Set.of("int", "long", "boolean", "float").contains(one);
        return isPlain || one.equals("int[]") || one.startsWith("RolloutHall.");
    }

    @Override
    public Void visitMethodInvocation(MethodInvocationTree tree, Void none) {
        Element called = element(tree.getMethodSelect());
        String owner = called.getEnclosingElement().toString();
        if (owner.startsWith("RolloutHall")) {
            Check.due("a method holds " + tree, holder() != null, true);
            calls.computeIfAbsent(element(holder()), key -> new HashSet<>()).add(called);
        } else if (called.getKind() == ElementKind.METHOD) {
            String name = owner + "." + called.getSimpleName();
            Check.due(name + " is of rule 4", LIBRARY.contains(name), true);
        }
        return super.visitMethodInvocation(tree, none);
    }

    @Override
    public Void visitNewClass(NewClassTree tree, Void none) {
        Check.due("a body of " + tree, tree.getClassBody() == null, true);
        Element made = element(tree).getEnclosingElement();
        boolean isThrown = getCurrentPath().getParentPath().getLeaf() instanceof ThrowTree;
        Check.due(tree + " is an own class or thrown", isThrown || made.toString().startsWith("RolloutHall."), true);
        return super.visitNewClass(tree, none);
    }

    @Override
    public Void visitThrow(ThrowTree tree, Void none) {
        throwsSeen++;
        ExpressionTree thrown = tree.getExpression();
        Check.due(tree + " is new", thrown instanceof NewClassTree, true);
        if (thrown instanceof NewClassTree made) {
            Check.due(tree + " is of the document", THROWN.contains(made.getIdentifier().toString()), true);
            for (ExpressionTree argument : made.getArguments()) {
                Check.due(argument + " is a written text", argument instanceof LiteralTree, true);
            }
        }
        boolean isInMethod = holder() != null && holder().getReturnType() != null;
        Check.due(tree + " is in a method", isInMethod, true);
        return super.visitThrow(tree, none);
    }

    @Override
    public Void visitForLoop(ForLoopTree tree, Void none) {
        loopsSeen++;
        Check.due("an end of " + tree, tree.getCondition() != null && !tree.getUpdate().isEmpty(), true);
        return super.visitForLoop(tree, none);
    }

    @Override
    public Void visitBinary(BinaryTree tree, Void none) {
        TypeMirror type = trees.getTypeMirror(getCurrentPath());
        Check.due("a text joined by + in " + tree, type.toString().equals("java.lang.String"), false);
        boolean isDivision = tree.getKind() == Tree.Kind.DIVIDE || tree.getKind() == Tree.Kind.REMAINDER;
        if (isDivision && type.getKind() != TypeKind.FLOAT) {
            isKnownDivisor(tree.getRightOperand());
        }
        return super.visitBinary(tree, none);
    }

    /** A number, a constant, or the count of people, which is tested ahead of it. */
    private void isKnownDivisor(ExpressionTree divisor) {
        boolean isNumber = divisor instanceof LiteralTree literal && !literal.getValue().equals(0);
        Element one = isNumber ? null : element(divisor);
        boolean isConstant = one != null && one.getModifiers().contains(Modifier.STATIC);
        Check.due("the divisor " + divisor, isNumber || isConstant || divisor.toString().equals("people"), true);
    }

    @Override
    public Void visitWhileLoop(WhileLoopTree tree, Void none) {
        isLeftOut(tree, "a loop whose end can't be seen in one line");
        return super.visitWhileLoop(tree, none);
    }

    @Override
    public Void visitDoWhileLoop(DoWhileLoopTree tree, Void none) {
        isLeftOut(tree, "a loop whose end can't be seen in one line");
        return super.visitDoWhileLoop(tree, none);
    }

    @Override
    public Void visitCatch(CatchTree tree, Void none) {
        isLeftOut(tree, "a catch");
        return super.visitCatch(tree, none);
    }

    @Override
    public Void visitLambdaExpression(LambdaExpressionTree tree, Void none) {
        isLeftOut(tree, "a lambda");
        return super.visitLambdaExpression(tree, none);
    }

    @Override
    public Void visitMemberReference(MemberReferenceTree tree, Void none) {
        isLeftOut(tree, "a method reference");
        return super.visitMemberReference(tree, none);
    }

    @Override
    public Void visitSynchronized(SynchronizedTree tree, Void none) {
        isLeftOut(tree, "synchronized");
        return super.visitSynchronized(tree, none);
    }

    @Override
    public Void visitAssert(AssertTree tree, Void none) {
        isLeftOut(tree, "assert");
        return super.visitAssert(tree, none);
    }

    @Override
    public Void visitInstanceOf(InstanceOfTree tree, Void none) {
        isLeftOut(tree, "instanceof");
        return super.visitInstanceOf(tree, none);
    }

    @Override
    public Void visitTypeCast(TypeCastTree tree, Void none) {
        Check.due(tree + " casts numbers", trees.getTypeMirror(getCurrentPath()).getKind().isPrimitive(), true);
        return super.visitTypeCast(tree, none);
    }

    /** No method calls itself, by others neither, and no chain of calls is longer than rule 11 has it. */
    private void callsAreShallow() {
        Set<String> called = new TreeSet<>();
        for (Element method : calls.keySet()) {
            int depth = depth(method, 1);
            Check.due("calls from " + method + ", " + depth + " deep", depth <= DEEPEST, true);
            for (Element other : calls.get(method)) {
                called.add(other.getEnclosingElement() + "." + other);
            }
        }
        for (Element method : calls.keySet()) {
            boolean isPrivate = !method.getModifiers().contains(Modifier.PUBLIC);
            String name = method.getEnclosingElement() + "." + method;
            boolean isMethod = method.getKind() == ElementKind.METHOD;
            Check.due(name + " is called", isPrivate && isMethod, isPrivate && isMethod && called.contains(name));
        }
    }

    private int depth(Element method, int level) {
        int deepest = level;
        if (level <= DEEPEST) {
            for (Element other : calls.getOrDefault(method, Set.of())) {
                deepest = Math.max(deepest, depth(other, level + 1));
            }
        }
        return deepest;
    }
}
