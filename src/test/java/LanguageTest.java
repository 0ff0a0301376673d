import com.sun.source.tree.AnnotationTree;
import com.sun.source.tree.AssertTree;
import com.sun.source.tree.BinaryTree;
import com.sun.source.tree.BlockTree;
import com.sun.source.tree.ClassTree;
import com.sun.source.tree.CompilationUnitTree;
import com.sun.source.tree.DoWhileLoopTree;
import com.sun.source.tree.ExpressionTree;
import com.sun.source.tree.ForLoopTree;
import com.sun.source.tree.InstanceOfTree;
import com.sun.source.tree.LambdaExpressionTree;
import com.sun.source.tree.LineMap;
import com.sun.source.tree.LiteralTree;
import com.sun.source.tree.MemberReferenceTree;
import com.sun.source.tree.MethodInvocationTree;
import com.sun.source.tree.MethodTree;
import com.sun.source.tree.NewClassTree;
import com.sun.source.tree.ParenthesizedTree;
import com.sun.source.tree.SynchronizedTree;
import com.sun.source.tree.ThrowTree;
import com.sun.source.tree.Tree;
import com.sun.source.tree.TryTree;
import com.sun.source.tree.TypeCastTree;
import com.sun.source.tree.VariableTree;
import com.sun.source.tree.WhileLoopTree;
import com.sun.source.util.JavacTask;
import com.sun.source.util.TreePathScanner;
import com.sun.source.util.Trees;
import java.io.IOException;
import java.nio.file.Files;
import java.nio.file.Path;
import java.util.ArrayList;
import java.util.HashMap;
import java.util.LinkedHashSet;
import java.util.List;
import java.util.Map;
import java.util.Set;
import java.util.TreeSet;
import javax.lang.model.element.Element;
import javax.lang.model.element.ElementKind;
import javax.lang.model.element.Modifier;
import javax.tools.JavaCompiler;
import javax.tools.StandardJavaFileManager;
import javax.tools.ToolProvider;

/**
 * The rules of LANGUAGE.md that can be seen in the source of the class. Where the class does without something that a rule
 * allows (try, casts, lists, texts, doubles, classes with a body of their own), it is told as a fault until it is asked for here.
 */
public final class LanguageTest extends TreePathScanner<Void, Void> {
    private static final Path SOURCE = Path.of("src/main/java/LoshuHall.java");
    private static final Set<String> TYPES = Set.of("int", "long", "short", "byte", "char", "boolean", "void", "String");
    private static final Set<String> LIBRARY = Set.of("Math.max", "Math.min", "Math.abs", "Math.floorMod", "Math.floorDiv",
        "Integer.bitCount", "Integer.compare", "Long.compare", "System.arraycopy", "Arrays.fill", "Arrays.copyOf");
    private static final Set<String> EXCEPTIONS = Set.of("IllegalStateException", "IllegalArgumentException",
        "IndexOutOfBoundsException", "ArithmeticException", "UnsupportedOperationException", "NoSuchElementException", "RuntimeException");
    private static final int MOST_CLASSES = 12;
    private static final int MOST_FIELDS = 20;
    private static final int MOST_LINES = 60;
    private static final int MOST_PARAMETERS = 7;
    private static final int MOST_CALLS_DEEP = 8;

    private final Trees trees;
    private final CompilationUnitTree unit;
    private final Set<String> ownClasses = new TreeSet<>();
    private final Map<Element, Set<Element>> calls = new HashMap<>();
    private final Map<Element, String> names = new HashMap<>();
    private Element method = null;

    private LanguageTest(Trees trees, CompilationUnitTree unit) {
        this.trees = trees;
        this.unit = unit;
    }

    public static void main(String[] args) throws IOException {
        JavaCompiler compiler = ToolProvider.getSystemJavaCompiler();
        try (StandardJavaFileManager files = compiler.getStandardFileManager(null, null, null)) {
            JavacTask task = (JavacTask) compiler.getTask(null, files, null, List.of("-proc:none"), null, files.getJavaFileObjects(SOURCE));
            CompilationUnitTree unit = task.parse().iterator().next();
            task.analyze();
            LanguageTest test = new LanguageTest(Trees.instance(task), unit);
            test.fileIsOneClass();
            test.scan(unit, null);
            test.callsAreNotDeep();
        }
        signsAreThoseOfTheRules();
        Check.end("LanguageTest");
    }

    private void keeps(String rule, Tree at, boolean isKept) {
        LineMap lines = unit.getLineMap();
        long line = lines.getLineNumber(trees.getSourcePositions().getStartPosition(unit, at));
        Check.holds("line " + line + ", rule " + rule, isKept);
    }

    private static void signsAreThoseOfTheRules() throws IOException {
        for (String line : Files.readAllLines(SOURCE)) {
            Check.holds("rule 4, signs are 1 to 127: " + line, line.chars().allMatch(sign -> sign >= 1 && sign <= 127));
        }
    }

    private void fileIsOneClass() {
        Check.holds("rule 1, no package line, and no import is needed", unit.getPackageName() == null && unit.getImports().isEmpty());
        Check.due("rule 1, classes outside", 1, unit.getTypeDecls().size());
        ClassTree outer = (ClassTree) unit.getTypeDecls().get(0);
        ownClasses.add(outer.getSimpleName().toString());
        for (Tree member : outer.getMembers()) {
            if (member instanceof ClassTree inside) {
                ownClasses.add(inside.getSimpleName().toString());
            }
        }
        Check.holds("rule 11, at most some twelve classes", ownClasses.size() <= MOST_CLASSES);
    }

    @Override
    public Void visitClass(ClassTree tree, Void none) {
        boolean isOuter = tree.getSimpleName().contentEquals("LoshuHall");
        keeps("2, classes inside are static ones of the one class", tree,
            ownClasses.contains(tree.getSimpleName().toString()) && (isOuter || tree.getModifiers().getFlags().contains(Modifier.STATIC)));
        int fields = 0;
        for (Tree member : tree.getMembers()) {
            keeps("5, no initialiser block", member, !(member instanceof BlockTree));
            if (member instanceof VariableTree field && !isConstant(field)) {
                keeps("5, static fields are constants", field, !field.getModifiers().getFlags().contains(Modifier.STATIC));
                fields++;
            }
        }
        keeps("11, a class has at most some twenty fields", tree, fields <= MOST_FIELDS);
        return super.visitClass(tree, none);
    }

    private static boolean isConstant(VariableTree field) {
        return field.getModifiers().getFlags().containsAll(Set.of(Modifier.STATIC, Modifier.FINAL))
            && TYPES.contains(field.getType().toString());
    }

    @Override
    public Void visitVariable(VariableTree tree, Void none) {
        hasAllowedType(tree, tree.getType().toString());
        return super.visitVariable(tree, none);
    }

    private void hasAllowedType(Tree at, String type) {
        String element = type.replace("[]", "");
        int dimensions = (type.length() - element.length()) / 2;
        boolean isOwn = ownClasses.contains(element);
        keeps("3, the type " + type, at, (isOwn || TYPES.contains(element)) && dimensions <= (isOwn || element.equals("String") ? 1 : 2));
    }

    @Override
    public Void visitMethod(MethodTree tree, Void none) {
        method = trees.getElement(getCurrentPath());
        names.put(method, tree.getName().toString());
        calls.putIfAbsent(method, new LinkedHashSet<>());
        if (tree.getReturnType() != null) {
            hasAllowedType(tree, tree.getReturnType().toString());
        }
        keeps("6, no method named " + tree.getName(), tree,
            !Set.of("equals", "hashCode", "toString").contains(tree.getName().toString()));
        keeps("11, at most seven parameters", tree, tree.getParameters().size() <= MOST_PARAMETERS);
        keeps("11, some sixty lines", tree, linesOf(tree) <= MOST_LINES);
        super.visitMethod(tree, none);
        method = null;
        return null;
    }

    private long linesOf(Tree tree) {
        LineMap lines = unit.getLineMap();
        return lines.getLineNumber(trees.getSourcePositions().getEndPosition(unit, tree))
            - lines.getLineNumber(trees.getSourcePositions().getStartPosition(unit, tree)) + 1;
    }

    @Override
    public Void visitMethodInvocation(MethodInvocationTree tree, Void none) {
        Element called = trees.getElement(getCurrentPath());
        String owner = called.getEnclosingElement().getSimpleName().toString();
        boolean isOwn = ownClasses.contains(owner) || called.getSimpleName().contentEquals("<init>");
        keeps("4, the call of " + owner + "." + called.getSimpleName(), tree,
            isOwn || LIBRARY.contains(owner + "." + called.getSimpleName()));
        addCall(called);
        return super.visitMethodInvocation(tree, none);
    }

    @Override
    public Void visitNewClass(NewClassTree tree, Void none) {
        String made = tree.getIdentifier().toString();
        keeps("2, no class with a body of its own", tree, tree.getClassBody() == null);
        keeps("4, a new " + made, tree, ownClasses.contains(made) || EXCEPTIONS.contains(made));
        if (ownClasses.contains(made)) {
            addCall(trees.getElement(getCurrentPath()));
        }
        return super.visitNewClass(tree, none);
    }

    private void addCall(Element called) {
        if (method != null) {
            calls.get(method).add(called);
        }
    }

    @Override
    public Void visitThrow(ThrowTree tree, Void none) {
        boolean isKept = tree.getExpression() instanceof NewClassTree made && EXCEPTIONS.contains(made.getIdentifier().toString())
            && made.getArguments().stream().allMatch(argument -> argument.getKind() == Tree.Kind.STRING_LITERAL);
        keeps("6, what is thrown", tree, isKept && method != null && method.getKind() != ElementKind.CONSTRUCTOR);
        return super.visitThrow(tree, none);
    }

    @Override
    public Void visitTry(TryTree tree, Void none) {
        keeps("6, no try", tree, false);
        return super.visitTry(tree, none);
    }

    @Override
    public Void visitLambdaExpression(LambdaExpressionTree tree, Void none) {
        keeps("2, no lambda", tree, false);
        return super.visitLambdaExpression(tree, none);
    }

    @Override
    public Void visitMemberReference(MemberReferenceTree tree, Void none) {
        keeps("2, no method reference", tree, false);
        return super.visitMemberReference(tree, none);
    }

    @Override
    public Void visitSynchronized(SynchronizedTree tree, Void none) {
        keeps("6, no synchronized", tree, false);
        return super.visitSynchronized(tree, none);
    }

    @Override
    public Void visitAssert(AssertTree tree, Void none) {
        keeps("6, no assert", tree, false);
        return super.visitAssert(tree, none);
    }

    @Override
    public Void visitInstanceOf(InstanceOfTree tree, Void none) {
        keeps("6, no instanceof", tree, false);
        return super.visitInstanceOf(tree, none);
    }

    @Override
    public Void visitAnnotation(AnnotationTree tree, Void none) {
        keeps("4, no annotation", tree, false);
        return super.visitAnnotation(tree, none);
    }

    @Override
    public Void visitTypeCast(TypeCastTree tree, Void none) {
        keeps("7, casts are of numbers", tree, TYPES.contains(tree.getType().toString()) && !tree.getType().toString().equals("String"));
        return super.visitTypeCast(tree, none);
    }

    @Override
    public Void visitBinary(BinaryTree tree, Void none) {
        keeps("10, texts are not joined by +", tree, !isText(tree.getLeftOperand()) && !isText(tree.getRightOperand()));
        return super.visitBinary(tree, none);
    }

    private static boolean isText(ExpressionTree tree) {
        return tree.getKind() == Tree.Kind.STRING_LITERAL;
    }

    @Override
    public Void visitLiteral(LiteralTree tree, Void none) {
        keeps("3, no doubles or floats", tree, tree.getKind() != Tree.Kind.DOUBLE_LITERAL && tree.getKind() != Tree.Kind.FLOAT_LITERAL);
        return super.visitLiteral(tree, none);
    }

    @Override
    public Void visitForLoop(ForLoopTree tree, Void none) {
        endIsSeen(tree, tree.getCondition());
        return super.visitForLoop(tree, none);
    }

    @Override
    public Void visitWhileLoop(WhileLoopTree tree, Void none) {
        endIsSeen(tree, tree.getCondition());
        return super.visitWhileLoop(tree, none);
    }

    @Override
    public Void visitDoWhileLoop(DoWhileLoopTree tree, Void none) {
        endIsSeen(tree, tree.getCondition());
        return super.visitDoWhileLoop(tree, none);
    }

    private void endIsSeen(Tree loop, ExpressionTree condition) {
        ExpressionTree bare = condition instanceof ParenthesizedTree inner ? inner.getExpression() : condition;
        keeps("9, a loop's end is seen", loop, bare != null && bare.getKind() != Tree.Kind.BOOLEAN_LITERAL);
    }

    // ---- which calls stand open at once

    private void callsAreNotDeep() {
        for (Element from : calls.keySet()) {
            if (from.getModifiers().contains(Modifier.PUBLIC)) {
                follow(from, new ArrayList<>());
            }
        }
    }

    /** A method that is open already is a recursion, which is allowed to private static ones. */
    private void follow(Element next, List<Element> open) {
        if (open.contains(next)) {
            Check.holds("rule 8, " + names.get(next) + " calls itself, and is private and static",
                next.getModifiers().containsAll(Set.of(Modifier.PRIVATE, Modifier.STATIC)));
            return;
        }
        open.add(next);
        Check.holds("rule 11, calls go at most eight deep: " + open, open.size() <= MOST_CALLS_DEEP);
        for (Element called : calls.getOrDefault(next, Set.of())) {
            if (calls.containsKey(called)) {
                follow(called, open);
            }
        }
        open.remove(open.size() - 1);
    }
}
