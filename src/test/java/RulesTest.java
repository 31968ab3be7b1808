import com.sun.source.tree.AssertTree;
import com.sun.source.tree.BinaryTree;
import com.sun.source.tree.BlockTree;
import com.sun.source.tree.ClassTree;
import com.sun.source.tree.CompilationUnitTree;
import com.sun.source.tree.CompoundAssignmentTree;
import com.sun.source.tree.DoWhileLoopTree;
import com.sun.source.tree.ExpressionTree;
import com.sun.source.tree.ForLoopTree;
import com.sun.source.tree.ImportTree;
import com.sun.source.tree.InstanceOfTree;
import com.sun.source.tree.LambdaExpressionTree;
import com.sun.source.tree.LiteralTree;
import com.sun.source.tree.MemberReferenceTree;
import com.sun.source.tree.MethodInvocationTree;
import com.sun.source.tree.MethodTree;
import com.sun.source.tree.NewArrayTree;
import com.sun.source.tree.NewClassTree;
import com.sun.source.tree.ParenthesizedTree;
import com.sun.source.tree.SwitchTree;
import com.sun.source.tree.SynchronizedTree;
import com.sun.source.tree.ThrowTree;
import com.sun.source.tree.Tree;
import com.sun.source.tree.TryTree;
import com.sun.source.tree.TypeCastTree;
import com.sun.source.tree.VariableTree;
import com.sun.source.tree.WhileLoopTree;
import com.sun.source.util.JavacTask;
import com.sun.source.util.SourcePositions;
import com.sun.source.util.TreePath;
import com.sun.source.util.TreePathScanner;
import com.sun.source.util.Trees;
import java.io.IOException;
import java.nio.file.Files;
import java.nio.file.Path;
import java.util.ArrayList;
import java.util.HashMap;
import java.util.HashSet;
import java.util.List;
import java.util.Map;
import java.util.Set;
import javax.lang.model.element.Element;
import javax.lang.model.element.ElementKind;
import javax.lang.model.element.Modifier;
import javax.lang.model.element.TypeElement;
import javax.lang.model.element.VariableElement;
import javax.lang.model.type.ArrayType;
import javax.lang.model.type.DeclaredType;
import javax.lang.model.type.TypeKind;
import javax.lang.model.type.TypeMirror;
import javax.tools.JavaCompiler;
import javax.tools.StandardJavaFileManager;
import javax.tools.ToolProvider;

/** The rules of ../shared/LANGUAGE.md, as far as they can be read off the source's syntax tree.
 * Where a rule leaves more than the class needs, less is asked for here: no try, no null, no
 * list, no text but that of an exception. */
final class RulesTest extends TreePathScanner<Void, Void> {
    private static final Path SOURCE = Path.of("src/main/java/IslandReserve.java");
    private static final Set<String> LIBRARY = Set.of("java.lang.Math.min", "java.lang.Math.max",
            "java.lang.Integer.bitCount", "java.lang.System.arraycopy", "java.util.Arrays.fill",
            "java.lang.Object.<init>");
    private static final Set<String> EXCEPTIONS = Set.of("java.lang.IllegalStateException",
            "java.lang.IllegalArgumentException", "java.lang.IndexOutOfBoundsException");
    private static final Set<Tree.Kind> ON_DOUBLES = Set.of(Tree.Kind.PLUS, Tree.Kind.MINUS,
            Tree.Kind.MULTIPLY, Tree.Kind.DIVIDE, Tree.Kind.LESS_THAN, Tree.Kind.LESS_THAN_EQUAL,
            Tree.Kind.GREATER_THAN, Tree.Kind.GREATER_THAN_EQUAL, Tree.Kind.EQUAL_TO,
            Tree.Kind.NOT_EQUAL_TO);
    private static final Set<Tree.Kind> COMPARISONS = Set.of(Tree.Kind.LESS_THAN,
            Tree.Kind.LESS_THAN_EQUAL, Tree.Kind.GREATER_THAN, Tree.Kind.GREATER_THAN_EQUAL);
    private static final int PARAMETERS_MOST = 7;
    private static final int LINES_MOST = 60;
    private static final int DEPTH_MOST = 8;
    private static final int CLASSES_MOST = 12;
    private static final int FIELDS_MOST = 20;

    private final CompilationUnitTree unit;
    private final Trees trees;
    private final Set<String> face = new HashSet<>();
    /** The calls that a method makes, by the methods' elements. */
    private final Map<Element, Set<Element>> calls = new HashMap<>();
    private int classes = 0;

    private RulesTest(CompilationUnitTree unit, Trees trees) {
        this.unit = unit;
        this.trees = trees;
        for (java.lang.reflect.Method method : IslandReserve.class.getMethods()) {
            face.add(method.getName());
        }
    }

    public static void main(String[] args) throws IOException {
        JavaCompiler compiler = ToolProvider.getSystemJavaCompiler();
        try (StandardJavaFileManager files = compiler.getStandardFileManager(null, null, null)) {
            JavacTask task = (JavacTask) compiler.getTask(null, files, null,
                    List.of("-proc:none"), null, files.getJavaFileObjects(SOURCE));
            CompilationUnitTree unit = task.parse().iterator().next();
            task.analyze();
            RulesTest test = new RulesTest(unit, Trees.instance(task));
            test.scan(unit, null);
            test.theWholeFile();
        }
        signsOfTheSource();
        Check.end();
    }

    /** Rules 2 and 11: so many classes, no call that leads back to itself, none too deep. */
    private void theWholeFile() {
        isSo("no package", unit.getPackageName() == null);
        isSo("one class in the file", unit.getTypeDecls().size() == 1);
        isSo(classes + " classes", classes > 1 && classes <= CLASSES_MOST);
        for (Element method : calls.keySet()) {
            int depth = depth(method, new ArrayList<>());
            isSo(method + " is " + depth + " calls deep", depth <= DEPTH_MOST);
        }
    }

    /** Rule 8: the class has no recursion at all. */
    private int depth(Element method, List<Element> open) {
        isSo("no recursion: " + method, !open.contains(method));
        if (open.contains(method)) {
            return 0;
        }
        open.add(method);
        int deepest = 0;
        for (Element called : calls.getOrDefault(method, Set.of())) {
            deepest = Math.max(deepest, depth(called, open));
        }
        open.remove(method);
        return deepest + 1;
    }

    private static void signsOfTheSource() throws IOException {
        String source = Files.readString(SOURCE);
        isSo("ASCII alone",
                source.chars().allMatch(sign -> sign == 10 || sign >= 32 && sign < 127));
    }

    // ---- classes, fields, methods

    @Override
    public Void visitImport(ImportTree tree, Void none) {
        String name = tree.getQualifiedIdentifier().toString();
        at(tree, "rule 4, import", name.equals("java.util.Arrays") && !tree.isStatic());
        return super.visitImport(tree, none);
    }

    @Override
    public Void visitClass(ClassTree tree, Void none) {
        classes++;
        Set<Modifier> modifiers = tree.getModifiers().getFlags();
        Tree parent = getCurrentPath().getParentPath().getLeaf();
        if (parent == unit) {
            at(tree, "rule 1, public and final",
                    modifiers.equals(Set.of(Modifier.PUBLIC, Modifier.FINAL)));
        } else {
            at(tree, "rule 2, a class inside the class, not in a method",
                    parent.getKind() == Tree.Kind.CLASS);
            at(tree, "rule 2, static, private or package-visible",
                    modifiers.contains(Modifier.STATIC) && !modifiers.contains(Modifier.PUBLIC)
                    && !modifiers.contains(Modifier.PROTECTED));
        }
        int fields = 0;
        for (Tree member : tree.getMembers()) {
            boolean isField = member.getKind() == Tree.Kind.VARIABLE;
            fields += isField && !isStatic(((VariableTree) member)) ? 1 : 0;
        }
        at(tree, "rule 11, " + fields + " fields", fields <= FIELDS_MOST);
        return super.visitClass(tree, none);
    }

    private static boolean isStatic(VariableTree field) {
        return field.getModifiers().getFlags().contains(Modifier.STATIC);
    }

    @Override
    public Void visitVariable(VariableTree tree, Void none) {
        VariableElement variable = (VariableElement) element(getCurrentPath());
        at(tree, "rule 3, the type " + variable.asType(), isAllowed(variable.asType()));
        if (variable.getKind() == ElementKind.FIELD) {
            checkField(tree, variable);
        }
        return super.visitVariable(tree, none);
    }

    private void checkField(VariableTree tree, VariableElement field) {
        boolean isConstant = field.getConstantValue() != null;
        at(tree, "rule 5, a static field is a constant", !isStatic(tree) || isConstant);
        boolean isPublic = field.getModifiers().contains(Modifier.PUBLIC);
        boolean isOfFace = field.getSimpleName().contentEquals("NONE");
        at(tree, "rule 1, private", isPublic == isOfFace
                && (isPublic || field.getModifiers().contains(Modifier.PRIVATE)));
        boolean isReference = !field.asType().getKind().isPrimitive();
        boolean isThere = field.getModifiers().contains(Modifier.FINAL)
                && tree.getInitializer() != null;
        at(tree, "rule 7, a reference that is never null", !isReference || isThere);
    }

    /** Numbers, boolean, arrays of them; classes of the file and rows of these. */
    private static boolean isAllowed(TypeMirror type) {
        if (type.getKind() == TypeKind.ARRAY) {
            TypeMirror part = ((ArrayType) type).getComponentType();
            if (part.getKind() == TypeKind.ARRAY) {
                return ((ArrayType) part).getComponentType().getKind().isPrimitive();
            }
            return part.getKind().isPrimitive() || isOwn(part);
        }
        return type.getKind().isPrimitive() || isOwn(type);
    }

    private static boolean isOwn(TypeMirror type) {
        return type.getKind() == TypeKind.DECLARED && isOwn(((DeclaredType) type).asElement());
    }

    private static boolean isOwn(Element type) {
        String name = ((TypeElement) type).getQualifiedName().toString();
        return name.equals("IslandReserve") || name.startsWith("IslandReserve.");
    }

    @Override
    public Void visitMethod(MethodTree tree, Void none) {
        Element method = element(getCurrentPath());
        calls.computeIfAbsent(method, key -> new HashSet<>());
        boolean isPrivate = method.getModifiers().contains(Modifier.PRIVATE);
        boolean isOfFace = face.contains(tree.getName().toString());
        boolean isConstructor = method.getKind() == ElementKind.CONSTRUCTOR;
        at(tree, "rule 1, a name of its own", isConstructor || isPrivate != isOfFace);
        at(tree, "rule 11, parameters", tree.getParameters().size() <= PARAMETERS_MOST);
        SourcePositions positions = trees.getSourcePositions();
        long from = unit.getLineMap().getLineNumber(positions.getStartPosition(unit, tree));
        long end = Math.max(positions.getEndPosition(unit, tree), 0);
        long lines = unit.getLineMap().getLineNumber(end) - from + 1;
        at(tree, "rule 11, " + lines + " lines", lines <= LINES_MOST);
        return super.visitMethod(tree, none);
    }

    @Override
    public Void visitBlock(BlockTree tree, Void none) {
        at(tree, "rule 5, no static initialiser", !tree.isStatic());
        return super.visitBlock(tree, none);
    }

    // ---- calls, objects, exceptions

    @Override
    public Void visitMethodInvocation(MethodInvocationTree tree, Void none) {
        Element called = element(getCurrentPath());
        Element owner = called.getEnclosingElement();
        if (isOwn(owner)) {
            MethodTree caller = method();
            at(tree, "rule 12, a call stands in a method", caller != null);
            if (caller != null) {
                Element from = element(trees.getPath(unit, caller));
                calls.computeIfAbsent(from, key -> new HashSet<>()).add(called);
            }
        } else {
            String name = owner + "." + called.getSimpleName();
            at(tree, "rule 4, the library's " + name, LIBRARY.contains(name));
            for (ExpressionTree argument : tree.getArguments()) {
                at(tree, "rule 3, no " + name + " on doubles", !isFloating(argument));
            }
        }
        return super.visitMethodInvocation(tree, none);
    }

    @Override
    public Void visitNewClass(NewClassTree tree, Void none) {
        boolean isThrown = getCurrentPath().getParentPath().getLeaf() instanceof ThrowTree;
        TypeMirror type = trees.getTypeMirror(getCurrentPath());
        at(tree, "rule 4, an object of the file", isThrown || isOwn(type));
        at(tree, "rule 12, made with the island", isThrown || isMadeOnce());
        return super.visitNewClass(tree, none);
    }

    @Override
    public Void visitNewArray(NewArrayTree tree, Void none) {
        at(tree, "rule 12, made with the island", isMadeOnce());
        for (ExpressionTree length : tree.getDimensions()) {
            at(tree, "rule 7, a length that is a constant", isConstantAbove0(length));
        }
        return super.visitNewArray(tree, none);
    }

    /** Whether this stands in a constructor or makes a field. */
    private boolean isMadeOnce() {
        MethodTree method = method();
        return method == null || method.getName().contentEquals("<init>");
    }

    @Override
    public Void visitThrow(ThrowTree tree, Void none) {
        boolean isNew = tree.getExpression() instanceof NewClassTree;
        at(tree, "rule 6, throw new", isNew);
        if (isNew) {
            NewClassTree thrown = (NewClassTree) tree.getExpression();
            TypeMirror type = trees.getTypeMirror(
                    new TreePath(getCurrentPath(), tree.getExpression()));
            at(tree, "rule 6, one of its exceptions", EXCEPTIONS.contains(type.toString()));
            for (ExpressionTree argument : thrown.getArguments()) {
                at(tree, "rule 6, a written text",
                        argument.getKind() == Tree.Kind.STRING_LITERAL);
            }
        }
        at(tree, "rule 6, no throw in a constructor", !isMadeOnce());
        return super.visitThrow(tree, none);
    }

    @Override
    public Void visitTry(TryTree tree, Void none) {
        return never(tree, "rule 6, no try");
    }

    @Override
    public Void visitSynchronized(SynchronizedTree tree, Void none) {
        return never(tree, "rule 6, no synchronized");
    }

    @Override
    public Void visitAssert(AssertTree tree, Void none) {
        return never(tree, "rule 6, no assert");
    }

    @Override
    public Void visitLambdaExpression(LambdaExpressionTree tree, Void none) {
        return never(tree, "rule 2, no lambda");
    }

    @Override
    public Void visitMemberReference(MemberReferenceTree tree, Void none) {
        return never(tree, "rule 2, no method reference");
    }

    @Override
    public Void visitInstanceOf(InstanceOfTree tree, Void none) {
        return never(tree, "rule 6, no instanceof");
    }

    // ---- numbers, loops

    @Override
    public Void visitLiteral(LiteralTree tree, Void none) {
        at(tree, "rule 7, no null", tree.getKind() != Tree.Kind.NULL_LITERAL);
        boolean isText = tree.getKind() == Tree.Kind.STRING_LITERAL;
        boolean isOfThrow = getCurrentPath().getParentPath().getParentPath().getLeaf()
                instanceof ThrowTree;
        at(tree, "rule 10, no text but an exception's", !isText || isOfThrow);
        return super.visitLiteral(tree, none);
    }

    @Override
    public Void visitTypeCast(TypeCastTree tree, Void none) {
        at(tree, "rule 7, casts of numbers alone",
                trees.getTypeMirror(getCurrentPath()).getKind().isPrimitive());
        return super.visitTypeCast(tree, none);
    }

    @Override
    public Void visitBinary(BinaryTree tree, Void none) {
        boolean isOnDoubles = isFloating(tree.getLeftOperand())
                || isFloating(tree.getRightOperand());
        at(tree, "rule 3, on doubles", !isOnDoubles || ON_DOUBLES.contains(tree.getKind()));
        boolean divides = tree.getKind() == Tree.Kind.DIVIDE
                || tree.getKind() == Tree.Kind.REMAINDER;
        at(tree, "rule 7, a divisor that is a constant",
                !divides || isOnDoubles || isConstantAbove0(tree.getRightOperand()));
        return super.visitBinary(tree, none);
    }

    @Override
    public Void visitCompoundAssignment(CompoundAssignmentTree tree, Void none) {
        at(tree, "rule 7, no division behind which no constant is seen",
                tree.getKind() != Tree.Kind.DIVIDE_ASSIGNMENT
                && tree.getKind() != Tree.Kind.REMAINDER_ASSIGNMENT);
        at(tree, "rule 3, on doubles", !isFloating(tree.getVariable()));
        return super.visitCompoundAssignment(tree, none);
    }

    private boolean isFloating(ExpressionTree part) {
        TypeKind kind = trees.getTypeMirror(new TreePath(getCurrentPath(), part)).getKind();
        return kind == TypeKind.DOUBLE || kind == TypeKind.FLOAT;
    }

    private boolean isConstantAbove0(ExpressionTree part) {
        Object value = null;
        if (part instanceof LiteralTree literal) {
            value = literal.getValue();
        } else if (element(new TreePath(getCurrentPath(), part)) instanceof VariableElement named) {
            value = named.getConstantValue();
        }
        return value instanceof Integer number && number > 0;
    }

    @Override
    public Void visitSwitch(SwitchTree tree, Void none) {
        ExpressionTree selector = tree.getExpression();
        if (selector instanceof ParenthesizedTree parenthesized) {
            selector = parenthesized.getExpression();
        }
        TypeMirror type = trees.getTypeMirror(new TreePath(
                new TreePath(getCurrentPath(), tree.getExpression()), selector));
        at(tree, "rule 10, a switch on numbers", type.getKind() == TypeKind.INT);
        return super.visitSwitch(tree, none);
    }

    @Override
    public Void visitForLoop(ForLoopTree tree, Void none) {
        at(tree, "rule 9, a counter", tree.getUpdate().size() == 1);
        at(tree, "rule 9, a bound", isBounded(tree.getCondition()));
        return super.visitForLoop(tree, none);
    }

    @Override
    public Void visitWhileLoop(WhileLoopTree tree, Void none) {
        at(tree, "rule 9, a bound", isBounded(tree.getCondition()));
        return super.visitWhileLoop(tree, none);
    }

    @Override
    public Void visitDoWhileLoop(DoWhileLoopTree tree, Void none) {
        at(tree, "rule 9, a bound", isBounded(tree.getCondition()));
        return super.visitDoWhileLoop(tree, none);
    }

    /** Whether a comparison ends the loop, whatever stands beside it. */
    private static boolean isBounded(ExpressionTree condition) {
        if (condition instanceof ParenthesizedTree parenthesized) {
            return isBounded(parenthesized.getExpression());
        }
        if (condition instanceof BinaryTree binary) {
            boolean isBoth = binary.getKind() == Tree.Kind.CONDITIONAL_AND;
            return isBoth
                    ? isBounded(binary.getLeftOperand()) || isBounded(binary.getRightOperand())
                    : COMPARISONS.contains(binary.getKind());
        }
        return false;
    }

    // ---- what the rules are asked with

    private Element element(TreePath path) {
        return trees.getElement(path);
    }

    /** The method in which the tree stands that is looked at; null in a field. */
    private MethodTree method() {
        for (Tree tree : getCurrentPath()) {
            if (tree instanceof MethodTree method) {
                return method;
            }
        }
        return null;
    }

    private Void never(Tree tree, String rule) {
        at(tree, rule, false);
        return null;
    }

    private void at(Tree tree, String rule, boolean isKept) {
        long place = trees.getSourcePositions().getStartPosition(unit, tree);
        long line = place < 0 ? 0 : unit.getLineMap().getLineNumber(place);
        isSo(rule + ", line " + line, isKept);
    }

    private static void isSo(String what, boolean isRight) {
        Check.due(what, isRight ? 1 : 0, 1);
    }
}
