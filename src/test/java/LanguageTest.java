import com.sun.source.tree.*;
import com.sun.source.util.JavacTask;
import com.sun.source.util.TreePath;
import com.sun.source.util.TreePathScanner;
import com.sun.source.util.Trees;
import java.nio.file.Files;
import java.nio.file.Path;
import java.util.HashSet;
import java.util.LinkedHashMap;
import java.util.LinkedHashSet;
import java.util.List;
import java.util.Map;
import java.util.Set;
import java.util.regex.Pattern;
import javax.lang.model.element.Element;
import javax.lang.model.element.ElementKind;
import javax.lang.model.element.ExecutableElement;
import javax.lang.model.element.Modifier;
import javax.lang.model.element.TypeElement;
import javax.lang.model.type.ArrayType;
import javax.lang.model.type.TypeMirror;
import javax.tools.JavaCompiler;
import javax.tools.StandardJavaFileManager;
import javax.tools.ToolProvider;

/** The rules of LANGUAGE.md that can be looked up, in the source as the compiler reads it. */
public final class LanguageTest extends TreePathScanner<Void, Void> {
    private static final Path SOURCE = Path.of("src/main/java/TwoEchoes.java");
    private static final int MOST_CLASSES = 12;
    private static final int MOST_FIELDS = 20;
    private static final int MOST_LINES = 60;
    private static final int DEEPEST = 8;
    private static final Pattern LIBRARY = Pattern.compile(
        "String\\.(length|charAt|isEmpty|equals|indexOf|substring|toCharArray)"
        + "|StringBuilder\\.(append|charAt|setCharAt|setLength|deleteCharAt|reverse|length|toString)"
        + "|(ArrayList|List)\\.(add|get|set|remove|size|isEmpty|clear|of)"
        + "|(Math|Integer|Long)\\.(compare|max|min|abs|bitCount|floorDiv|floorMod)"
        + "|System\\.arraycopy|Arrays\\.(copyOf|copyOfRange|fill)|Array\\.clone");
    private static final Pattern TYPES = Pattern.compile(
        "(int|long|short|byte|char|boolean)(\\[\\]){0,2}|java\\.lang\\.String|TwoEchoes(\\.\\w+)?(\\[\\])?|void");
    private static final Pattern CONSTANTS = Pattern.compile("int|long|boolean|char|java\\.lang\\.String|(int|long|char|byte)\\[\\]");
    private static final Set<Tree.Kind> REFUSED = Set.of(Tree.Kind.THROW, Tree.Kind.TRY, Tree.Kind.CATCH,
        Tree.Kind.SYNCHRONIZED, Tree.Kind.ASSERT, Tree.Kind.LAMBDA_EXPRESSION, Tree.Kind.MEMBER_REFERENCE,
        Tree.Kind.FLOAT_LITERAL, Tree.Kind.DOUBLE_LITERAL, Tree.Kind.ANNOTATION);

    private final CompilationUnitTree unit;
    private final Trees trees;
    private final Map<Element, Set<Element>> calls = new LinkedHashMap<>();
    private int classes = 0;

    public static void main(String[] args) throws Exception {
        JavaCompiler compiler = ToolProvider.getSystemJavaCompiler();
        try (StandardJavaFileManager files = compiler.getStandardFileManager(null, null, null)) {
            JavacTask task = (JavacTask) compiler.getTask(null, files, null, List.of("-proc:none"), null,
                files.getJavaFileObjects(SOURCE));
            CompilationUnitTree unit = task.parse().iterator().next();
            task.analyze();
            LanguageTest test = new LanguageTest(unit, Trees.instance(task));
            test.scan(unit, null);
            test.callsGoDown();
            Check.due("classes", test.classes <= MOST_CLASSES, true);
        }
        for (String line : Files.readAllLines(SOURCE)) {
            Check.due("a line is 120 signs at most: " + line, line.length() <= 120, true);
        }
        Check.end("LanguageTest");
    }

    private LanguageTest(CompilationUnitTree unit, Trees trees) {
        this.unit = unit;
        this.trees = trees;
    }

    private long line(Tree tree) {
        return unit.getLineMap().getLineNumber(trees.getSourcePositions().getStartPosition(unit, tree));
    }

    private long lines(Tree tree) {
        long end = trees.getSourcePositions().getEndPosition(unit, tree);
        return unit.getLineMap().getLineNumber(end) - line(tree) + 1;
    }

    private void rule(int number, Tree tree, boolean isKept) {
        Check.due("rule " + number + " in line " + line(tree) + ": " + tree.getKind(), isKept, true);
    }

    private Element element(Tree tree) {
        return trees.getElement(new TreePath(getCurrentPath(), tree));
    }

    private TypeMirror type(Tree tree) {
        return trees.getTypeMirror(new TreePath(getCurrentPath(), tree));
    }

    private boolean isOwn(Element element) {
        Element at = element;
        while (at != null && at.getEnclosingElement() != null && at.getEnclosingElement().getKind() != ElementKind.PACKAGE) {
            at = at.getEnclosingElement();
        }
        return at != null && at.getSimpleName().contentEquals("TwoEchoes");
    }

    @Override
    public Void scan(Tree tree, Void none) {
        if (tree != null) {
            rule(6, tree, !REFUSED.contains(tree.getKind()));
        }
        return super.scan(tree, none);
    }

    @Override
    public Void visitImport(ImportTree tree, Void none) {
        rule(4, tree, tree.toString().strip().matches("import java\\.util\\.(Arrays|ArrayList|List|Iterator);"));
        return null;
    }

    @Override
    public Void visitClass(ClassTree tree, Void none) {
        classes++;
        Element at = trees.getElement(getCurrentPath());
        boolean isOuter = at.getEnclosingElement().getKind() == ElementKind.PACKAGE;
        rule(2, tree, isOuter || at.getEnclosingElement().getSimpleName().contentEquals("TwoEchoes"));
        rule(2, tree, isOuter || at.getModifiers().contains(Modifier.STATIC));
        int fields = 0;
        for (Tree member : tree.getMembers()) {
            rule(5, member, member.getKind() != Tree.Kind.BLOCK);
            if (member instanceof VariableTree field) {
                fields += field.getModifiers().getFlags().contains(Modifier.STATIC) ? 0 : 1;
            }
        }
        rule(11, tree, fields <= MOST_FIELDS);
        return super.visitClass(tree, none);
    }

    @Override
    public Void visitMethod(MethodTree tree, Void none) {
        rule(11, tree, tree.getParameters().size() <= 7);
        rule(11, tree, lines(tree) <= MOST_LINES);
        ExecutableElement method = (ExecutableElement) trees.getElement(getCurrentPath());
        rule(3, tree, TYPES.matcher(method.getReturnType().toString()).matches());
        calls.putIfAbsent(method, new LinkedHashSet<>());
        return super.visitMethod(tree, none);
    }

    @Override
    public Void visitVariable(VariableTree tree, Void none) {
        Element at = trees.getElement(getCurrentPath());
        rule(3, tree, TYPES.matcher(at.asType().toString()).matches());
        if (at.getModifiers().contains(Modifier.STATIC)) {
            rule(5, tree, at.getModifiers().contains(Modifier.FINAL));
            rule(5, tree, CONSTANTS.matcher(at.asType().toString()).matches());
            boolean isArray = at.asType() instanceof ArrayType;
            rule(5, tree, !isArray || tree.getInitializer() instanceof NewArrayTree row && row.getInitializers() != null);
            rule(5, tree, !isArray || at.getModifiers().contains(Modifier.PRIVATE));
        }
        return super.visitVariable(tree, none);
    }

    @Override
    public Void visitMethodInvocation(MethodInvocationTree tree, Void none) {
        Element called = element(tree.getMethodSelect());
        if (isOwn(called)) {
            callsIt(called);
        } else if (!isConstructorOfObject(called)) {
            rule(4, tree, LIBRARY.matcher(called.getEnclosingElement().getSimpleName() + "." + called.getSimpleName()).matches());
        }
        return super.visitMethodInvocation(tree, none);
    }

    /** The compiler puts a call of it into each constructor. */
    private static boolean isConstructorOfObject(Element called) {
        return called.getKind() == ElementKind.CONSTRUCTOR
            && ((TypeElement) called.getEnclosingElement()).getQualifiedName().contentEquals("java.lang.Object");
    }

    @Override
    public Void visitNewClass(NewClassTree tree, Void none) {
        rule(2, tree, tree.getClassBody() == null);
        rule(12, tree, !isInLoop());
        Element called = trees.getElement(getCurrentPath());
        rule(4, tree, isOwn(called));
        callsIt(called);
        return super.visitNewClass(tree, none);
    }

    @Override
    public Void visitNewArray(NewArrayTree tree, Void none) {
        rule(12, tree, !isInLoop());
        return super.visitNewArray(tree, none);
    }

    private boolean isInLoop() {
        for (Tree tree : getCurrentPath()) {
            if (tree instanceof ForLoopTree || tree instanceof WhileLoopTree || tree instanceof DoWhileLoopTree
                || tree instanceof EnhancedForLoopTree) {
                return true;
            }
        }
        return false;
    }

    /** A call in a field's first value is one of its class's constructor. */
    private void callsIt(Element called) {
        for (TreePath at = getCurrentPath(); at != null; at = at.getParentPath()) {
            Element from = trees.getElement(at);
            if (at.getLeaf() instanceof MethodTree) {
                calls.computeIfAbsent(from, f -> new LinkedHashSet<>()).add(called);
                return;
            }
            if (at.getLeaf() instanceof ClassTree) {
                for (Element member : from.getEnclosedElements()) {
                    if (member.getKind() == ElementKind.CONSTRUCTOR) {
                        calls.computeIfAbsent(member, f -> new LinkedHashSet<>()).add(called);
                    }
                }
                return;
            }
        }
    }

    @Override
    public Void visitBinary(BinaryTree tree, Void none) {
        String left = String.valueOf(type(tree.getLeftOperand()));
        String right = String.valueOf(type(tree.getRightOperand()));
        boolean hasText = left.equals("java.lang.String") || right.equals("java.lang.String");
        rule(10, tree, !hasText);
        return super.visitBinary(tree, none);
    }

    @Override
    public Void visitTypeCast(TypeCastTree tree, Void none) {
        rule(6, tree, tree.getType() instanceof PrimitiveTypeTree);
        return super.visitTypeCast(tree, none);
    }

    @Override
    public Void visitAssignment(AssignmentTree tree, Void none) {
        rule(5, tree, !isStaticRow(tree.getVariable()));
        return super.visitAssignment(tree, none);
    }

    @Override
    public Void visitCompoundAssignment(CompoundAssignmentTree tree, Void none) {
        rule(5, tree, !isStaticRow(tree.getVariable()));
        return super.visitCompoundAssignment(tree, none);
    }

    private boolean isStaticRow(ExpressionTree target) {
        if (!(target instanceof ArrayAccessTree access)) {
            return false;
        }
        Element row = trees.getElement(new TreePath(new TreePath(getCurrentPath(), target), access.getExpression()));
        return row != null && row.getModifiers().contains(Modifier.STATIC);
    }

    @Override
    public Void visitForLoop(ForLoopTree tree, Void none) {
        rule(9, tree, tree.getCondition() != null && tree.getCondition().toString().matches("(?s).*(<|>|!=).*"));
        return super.visitForLoop(tree, none);
    }

    @Override
    public Void visitWhileLoop(WhileLoopTree tree, Void none) {
        rule(9, tree, tree.getCondition().toString().matches("(?s).*(<|>).*"));
        return super.visitWhileLoop(tree, none);
    }

    /** A method may call itself if it is private and static; else calls go eight deep at most. */
    private void callsGoDown() {
        for (Map.Entry<Element, Set<Element>> entry : calls.entrySet()) {
            Element from = entry.getKey();
            if (entry.getValue().remove(from)) {
                Set<Modifier> with = from.getModifiers();
                Check.due("rule 8: " + from, with.contains(Modifier.PRIVATE) && with.contains(Modifier.STATIC), true);
            }
        }
        for (Element from : calls.keySet()) {
            int deep = depth(from, new HashSet<>());
            Check.due("rule 11: calls from " + from + " go " + deep + " deep", deep <= DEEPEST, true);
        }
    }

    private int depth(Element from, Set<Element> open) {
        if (!open.add(from)) {
            return DEEPEST + 1;
        }
        int deepest = 0;
        for (Element called : calls.getOrDefault(from, Set.of())) {
            deepest = Math.max(deepest, depth(called, open));
        }
        open.remove(from);
        return deepest + 1;
    }
}
