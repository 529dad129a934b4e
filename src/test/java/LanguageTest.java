import com.sun.source.tree.AssertTree;
import com.sun.source.tree.BinaryTree;
import com.sun.source.tree.BlockTree;
import com.sun.source.tree.ClassTree;
import com.sun.source.tree.CompilationUnitTree;
import com.sun.source.tree.DoWhileLoopTree;
import com.sun.source.tree.ExpressionTree;
import com.sun.source.tree.ForLoopTree;
import com.sun.source.tree.ImportTree;
import com.sun.source.tree.InstanceOfTree;
import com.sun.source.tree.LambdaExpressionTree;
import com.sun.source.tree.MemberReferenceTree;
import com.sun.source.tree.MethodInvocationTree;
import com.sun.source.tree.MethodTree;
import com.sun.source.tree.NewClassTree;
import com.sun.source.tree.ParenthesizedTree;
import com.sun.source.tree.SynchronizedTree;
import com.sun.source.tree.ThrowTree;
import com.sun.source.tree.Tree;
import com.sun.source.tree.TryTree;
import com.sun.source.tree.TypeCastTree;
import com.sun.source.tree.VariableTree;
import com.sun.source.tree.WhileLoopTree;
import com.sun.source.util.JavacTask;
import com.sun.source.util.TreePath;
import com.sun.source.util.TreePathScanner;
import com.sun.source.util.Trees;
import java.nio.file.Path;
import java.util.ArrayDeque;
import java.util.HashMap;
import java.util.HashSet;
import java.util.List;
import java.util.Map;
import java.util.Set;
import java.util.TreeSet;
import javax.lang.model.element.Element;
import javax.lang.model.element.ElementKind;
import javax.lang.model.element.ExecutableElement;
import javax.lang.model.element.Modifier;
import javax.lang.model.element.VariableElement;
import javax.tools.JavaCompiler;
import javax.tools.StandardJavaFileManager;
import javax.tools.ToolProvider;

/**
 * ../shared/LANGUAGE.md binds the source of the class: those of its rules that can be read off it, by javac's own
 * tree. Rules 1 and 7 are FaceTest's and WildTest's. The class needs less than the rules leave (no list, no text, no
 * exception, no cast but to int and long), so what it does not need is not let in here at all.
 */
public final class LanguageTest extends TreePathScanner<Void, Void> {
    private static final Path SOURCE = Path.of("src", "main", "java", "LostLetters.java");
    private static final Set<String> LIBRARY = Set.of("java.lang.Math.max", "java.lang.Math.min");
    private static final int MOST_PARAMETERS = 7, MOST_LINES = 60, MOST_DEEP = 8, MOST_CLASSES = 12, MOST_FIELDS = 20;
    private static final Check check = new Check("LanguageTest");

    private final Trees trees;
    private final CompilationUnitTree unit;
    private final Map<Element, Set<Element>> calls = new HashMap<>();
    private int classes = 0;

    private LanguageTest(Trees trees, CompilationUnitTree unit) {
        this.trees = trees;
        this.unit = unit;
    }

    public static void main(String[] args) throws Exception {
        JavaCompiler compiler = ToolProvider.getSystemJavaCompiler();
        try (StandardJavaFileManager files = compiler.getStandardFileManager(null, null, null)) {
            JavacTask task = (JavacTask) compiler.getTask(null, files, null, List.of("-proc:none"), null,
                    files.getJavaFileObjects(SOURCE));
            CompilationUnitTree unit = task.parse().iterator().next();
            task.analyze();
            LanguageTest test = new LanguageTest(Trees.instance(task), unit);
            test.scan(unit, null);
            test.atTheEnd();
        }
        check.end();
    }

    /** A rule is kept; what breaks it is told with its line. */
    private void rule(int number, boolean kept, String what, Tree where) {
        long line = unit.getLineMap().getLineNumber(trees.getSourcePositions().getStartPosition(unit, where));
        check.due("rule " + number + ", line " + line + ": " + what, kept ? 1 : 0, 1);
    }

    private void atTheEnd() {
        check.due("one class in the file", unit.getTypeDecls().size(), 1);
        check.due("no package", unit.getPackageName() == null ? 1 : 0, 1);
        check.due("rule 11: classes", classes <= MOST_CLASSES ? 1 : 0, 1);
        for (Element method : calls.keySet()) {
            check.due("rule 8: " + method + " comes back to itself by another", isRound(method) ? 1 : 0, 0);
        }
        int deepest = 0;
        for (Element method : calls.keySet()) {
            deepest = Math.max(deepest, depth(method, MOST_DEEP + 1));
        }
        check.due("rule 11: calls go " + deepest + " deep", deepest <= MOST_DEEP ? 1 : 0, 1);
        check.due("the calls were read at all", deepest > 3 ? 1 : 0, 1);
    }

    /** A method may call itself, with a guard on the depth; none does so by way of another. */
    private boolean isRound(Element method) {
        Set<Element> seen = new HashSet<>();
        ArrayDeque<Element> open = new ArrayDeque<>(calls.get(method));
        open.remove(method);
        while (!open.isEmpty()) {
            Element next = open.pop();
            if (next.equals(method)) {
                return true;
            }
            if (seen.add(next)) {
                open.addAll(calls.getOrDefault(next, Set.of()));
            }
        }
        return false;
    }

    private int depth(Element method, int most) {
        int deepest = 0;
        for (Element next : calls.getOrDefault(method, Set.of())) {
            if (most > 0 && !next.equals(method) && calls.containsKey(next)) {
                deepest = Math.max(deepest, depth(next, most - 1));
            }
        }
        return deepest + 1;
    }

    @Override
    public Void visitImport(ImportTree tree, Void nothing) {
        rule(4, false, "import " + tree.getQualifiedIdentifier(), tree);
        return super.visitImport(tree, nothing);
    }

    @Override
    public Void visitClass(ClassTree tree, Void nothing) {
        classes++;
        boolean isOuter = tree.getSimpleName().contentEquals("LostLetters");
        Set<Modifier> modifiers = tree.getModifiers().getFlags();
        rule(2, isOuter || modifiers.contains(Modifier.STATIC), tree.getSimpleName() + " is not static", tree);
        rule(1, isOuter || modifiers.contains(Modifier.PRIVATE), tree.getSimpleName() + " is not private", tree);
        int fields = 0;
        for (Tree member : tree.getMembers()) {
            rule(5, member.getKind() != Tree.Kind.BLOCK, "a block that starts the class or an object", member);
            if (member instanceof VariableTree field) {
                fields += field.getModifiers().getFlags().contains(Modifier.STATIC) ? 0 : 1;
            }
        }
        rule(11, fields <= MOST_FIELDS, tree.getSimpleName() + " has " + fields + " fields", tree);
        return super.visitClass(tree, nothing);
    }

    @Override
    public Void visitVariable(VariableTree tree, Void nothing) {
        Element element = trees.getElement(getCurrentPath());
        Set<Modifier> modifiers = tree.getModifiers().getFlags();
        if (modifiers.contains(Modifier.STATIC)) {
            boolean isConstant = modifiers.contains(Modifier.FINAL)
                    && ((VariableElement) element).getConstantValue() != null;
            rule(5, isConstant, tree.getName() + " is static and no constant", tree);
        } else if (element.getKind() == ElementKind.FIELD) {
            rule(1, modifiers.contains(Modifier.PRIVATE), tree.getName() + " is not private", tree);
        }
        rule(3, isOwn(element.asType().toString()), tree.getName() + " is a " + element.asType(), tree);
        return super.visitVariable(tree, nothing);
    }

    private static boolean isOwn(String type) {
        return type.matches("(int|long|boolean)(\\[\\])?|LostLetters\\.\\w+(\\[\\])?");
    }

    @Override
    public Void visitMethod(MethodTree tree, Void nothing) {
        Element element = trees.getElement(getCurrentPath());
        calls.putIfAbsent(element, new HashSet<>());
        rule(11, tree.getParameters().size() <= MOST_PARAMETERS, tree.getName() + " has many parameters", tree);
        long first = trees.getSourcePositions().getStartPosition(unit, tree);
        long last = trees.getSourcePositions().getEndPosition(unit, tree);
        long lines = unit.getLineMap().getLineNumber(last) - unit.getLineMap().getLineNumber(first) + 1;
        rule(11, lines <= MOST_LINES, tree.getName() + " has " + lines + " lines", tree);
        rule(6, tree.getThrows().isEmpty(), tree.getName() + " tells what it throws", tree);
        return super.visitMethod(tree, nothing);
    }

    private Element around() {
        TreePath path = getCurrentPath();
        while (path != null && !(path.getLeaf() instanceof MethodTree)) {
            path = path.getParentPath();
        }
        return path == null ? null : trees.getElement(path);
    }

    @Override
    public Void visitMethodInvocation(MethodInvocationTree tree, Void nothing) {
        ExecutableElement called = (ExecutableElement) trees.getElement(getCurrentPath());
        String owner = called.getEnclosingElement().toString();
        if (called.getKind() == ElementKind.METHOD) {
            String name = owner + "." + called.getSimpleName();
            rule(4, owner.startsWith("LostLetters") || LIBRARY.contains(name), "calls " + name, tree);
            calls.computeIfAbsent(around(), key -> new HashSet<>()).add(called);
        }
        return super.visitMethodInvocation(tree, nothing);
    }

    @Override
    public Void visitNewClass(NewClassTree tree, Void nothing) {
        rule(2, tree.getClassBody() == null, "a class without a name", tree);
        String made = trees.getTypeMirror(getCurrentPath()).toString();
        rule(3, isOwn(made), "makes a " + made, tree);
        rule(12, around().getKind() == ElementKind.CONSTRUCTOR, "makes an object outside a constructor", tree);
        return super.visitNewClass(tree, nothing);
    }

    @Override
    public Void visitTypeCast(TypeCastTree tree, Void nothing) {
        rule(6, tree.getType().toString().matches("int|long"), "a cast to " + tree.getType(), tree);
        return super.visitTypeCast(tree, nothing);
    }

    @Override
    public Void visitForLoop(ForLoopTree tree, Void nothing) {
        rule(9, isBound(tree.getCondition()), "a loop whose end is not seen", tree);
        return super.visitForLoop(tree, nothing);
    }

    @Override
    public Void visitWhileLoop(WhileLoopTree tree, Void nothing) {
        rule(9, isBound(tree.getCondition()), "a loop whose end is not seen", tree);
        return super.visitWhileLoop(tree, nothing);
    }

    @Override
    public Void visitDoWhileLoop(DoWhileLoopTree tree, Void nothing) {
        rule(9, isBound(tree.getCondition()), "a loop whose end is not seen", tree);
        return super.visitDoWhileLoop(tree, nothing);
    }

    /** Its first part compares a counter with a bound. */
    private static boolean isBound(ExpressionTree condition) {
        ExpressionTree first = condition;
        while (first instanceof ParenthesizedTree inside) {
            first = inside.getExpression();
        }
        if (!(first instanceof BinaryTree binary)) {
            return false;
        }
        switch (binary.getKind()) {
            case CONDITIONAL_AND:
                return isBound(binary.getLeftOperand());
            case LESS_THAN:
            case LESS_THAN_EQUAL:
            case GREATER_THAN:
            case GREATER_THAN_EQUAL:
                return true;
            default:
                return false;
        }
    }

    @Override
    public Void visitBlock(BlockTree tree, Void nothing) {
        rule(5, !tree.isStatic(), "a static block", tree);
        return super.visitBlock(tree, nothing);
    }

    @Override
    public Void visitLambdaExpression(LambdaExpressionTree tree, Void nothing) {
        rule(2, false, "a lambda", tree);
        return super.visitLambdaExpression(tree, nothing);
    }

    @Override
    public Void visitMemberReference(MemberReferenceTree tree, Void nothing) {
        rule(2, false, "a method reference", tree);
        return super.visitMemberReference(tree, nothing);
    }

    @Override
    public Void visitThrow(ThrowTree tree, Void nothing) {
        rule(6, false, "the document names no exception", tree);
        return super.visitThrow(tree, nothing);
    }

    @Override
    public Void visitTry(TryTree tree, Void nothing) {
        rule(6, false, "nothing is thrown that could be caught", tree);
        return super.visitTry(tree, nothing);
    }

    @Override
    public Void visitSynchronized(SynchronizedTree tree, Void nothing) {
        rule(6, false, "synchronized", tree);
        return super.visitSynchronized(tree, nothing);
    }

    @Override
    public Void visitAssert(AssertTree tree, Void nothing) {
        rule(6, false, "assert", tree);
        return super.visitAssert(tree, nothing);
    }

    @Override
    public Void visitInstanceOf(InstanceOfTree tree, Void nothing) {
        rule(6, false, "instanceof is not needed", tree);
        return super.visitInstanceOf(tree, nothing);
    }
}
