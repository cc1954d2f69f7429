import com.sun.source.tree.AssertTree;
import com.sun.source.tree.BinaryTree;
import com.sun.source.tree.BlockTree;
import com.sun.source.tree.ClassTree;
import com.sun.source.tree.CompilationUnitTree;
import com.sun.source.tree.CompoundAssignmentTree;
import com.sun.source.tree.DoWhileLoopTree;
import com.sun.source.tree.ExpressionTree;
import com.sun.source.tree.ForLoopTree;
import com.sun.source.tree.ImportTree;
import com.sun.source.tree.LambdaExpressionTree;
import com.sun.source.tree.LiteralTree;
import com.sun.source.tree.MemberReferenceTree;
import com.sun.source.tree.MethodInvocationTree;
import com.sun.source.tree.MethodTree;
import com.sun.source.tree.NewArrayTree;
import com.sun.source.tree.NewClassTree;
import com.sun.source.tree.SynchronizedTree;
import com.sun.source.tree.ThrowTree;
import com.sun.source.tree.Tree;
import com.sun.source.tree.TryTree;
import com.sun.source.tree.TypeCastTree;
import com.sun.source.tree.VariableTree;
import com.sun.source.tree.WhileLoopTree;
import com.sun.source.util.JavacTask;
import com.sun.source.util.TreePath;
import com.sun.source.util.TreePathScanner;
import com.sun.source.util.Trees;
import java.nio.file.Path;
import java.util.HashMap;
import java.util.LinkedHashMap;
import java.util.List;
import java.util.Map;
import java.util.Set;
import javax.lang.model.element.Element;
import javax.lang.model.element.Modifier;
import javax.lang.model.element.TypeElement;
import javax.lang.model.type.ArrayType;
import javax.lang.model.type.TypeKind;
import javax.lang.model.type.TypeMirror;
import javax.tools.JavaCompiler;
import javax.tools.StandardJavaFileManager;
import javax.tools.ToolProvider;

/** What can be counted of LANGUAGE.md in src/main/java/TideLots.java; the class needs less than the rules allow. */
public final class RulesTest extends TreePathScanner<Void, Void> {
    private static final Set<String> LIBRARY = Set.of("String.length", "String.charAt", "Math.min", "Math.max");
    private static final Set<String> EXCEPTIONS = Set.of("IllegalStateException", "IllegalArgumentException",
            "IndexOutOfBoundsException");
    private static final Set<String> FORBIDDEN_NAMES = Set.of("equals", "hashCode", "toString");
    private static final int MOST_PARAMETERS = 7;
    private static final int MOST_LINES = 60;
    private static final int MOST_CLASSES = 12;
    private static final int MOST_FIELDS = 20;
    private static final int MOST_OPEN_CALLS = 8;

    private final Trees trees;
    private final CompilationUnitTree unit;
    private final Map<Element, Set<Element>> called = new LinkedHashMap<>();
    private final Map<Element, MethodTree> methods = new LinkedHashMap<>();
    private final Map<Element, Integer> deepest = new HashMap<>();
    private int classes = 0;

    private RulesTest(Trees trees, CompilationUnitTree unit) {
        this.trees = trees;
        this.unit = unit;
    }

    public static void main(String[] args) throws Exception {
        JavaCompiler compiler = ToolProvider.getSystemJavaCompiler();
        try (StandardJavaFileManager files = compiler.getStandardFileManager(null, null, null)) {
            JavacTask task = (JavacTask) compiler.getTask(null, files, null, List.of("-proc:none"), null,
                    files.getJavaFileObjects(Path.of("src", "main", "java", "TideLots.java")));
            CompilationUnitTree unit = task.parse().iterator().next();
            task.analyze();
            RulesTest rules = new RulesTest(Trees.instance(task), unit);
            rules.scan(unit, null);
            rules.countClassesAndCalls();
        }
        Due.end("RulesTest");
    }

    private void holds(int rule, Tree tree, boolean isKept) {
        Due.isTrue("rule " + rule + ", line " + lineOf(trees.getSourcePositions().getStartPosition(unit, tree)), isKept);
    }

    private long lineOf(long position) {
        return unit.getLineMap().getLineNumber(position);
    }

    private TypeMirror typeOf(Tree tree) {
        return trees.getTypeMirror(new TreePath(getCurrentPath(), tree));
    }

    private boolean isString(Tree tree) {
        TypeMirror type = typeOf(tree);
        return type != null && type.toString().equals("java.lang.String");
    }

    private Element methodAround() {
        for (TreePath path = getCurrentPath(); path != null; path = path.getParentPath()) {
            if (path.getLeaf() instanceof MethodTree) {
                return trees.getElement(path);
            }
        }
        return null;
    }

    private boolean isInConstructor() {
        Element around = methodAround();
        return around != null && around.getSimpleName().contentEquals("<init>");
    }

    /** RoomTest counts only what is kept, so no other method may make objects. */
    private boolean isInTeachOrAField() {
        Element around = methodAround();
        return around == null || around.getSimpleName().contentEquals("teach");
    }

    private boolean isInLoop() {
        for (TreePath path = getCurrentPath(); !(path.getLeaf() instanceof ClassTree); path = path.getParentPath()) {
            switch (path.getLeaf().getKind()) {
                case FOR_LOOP: case ENHANCED_FOR_LOOP: case WHILE_LOOP: case DO_WHILE_LOOP: return true;
                default: break;
            }
        }
        return false;
    }

    // ---- rules 2, 4, 6, 10, 13: what must not stand anywhere

    @Override public Void visitImport(ImportTree tree, Void nothing) {
        holds(4, tree, false);
        return super.visitImport(tree, nothing);
    }

    @Override public Void visitLambdaExpression(LambdaExpressionTree tree, Void nothing) {
        holds(2, tree, false);
        return super.visitLambdaExpression(tree, nothing);
    }

    @Override public Void visitMemberReference(MemberReferenceTree tree, Void nothing) {
        holds(2, tree, false);
        return super.visitMemberReference(tree, nothing);
    }

    @Override public Void visitTry(TryTree tree, Void nothing) {
        holds(6, tree, false);
        return super.visitTry(tree, nothing);
    }

    @Override public Void visitAssert(AssertTree tree, Void nothing) {
        holds(6, tree, false);
        return super.visitAssert(tree, nothing);
    }

    @Override public Void visitSynchronized(SynchronizedTree tree, Void nothing) {
        holds(6, tree, false);
        return super.visitSynchronized(tree, nothing);
    }

    @Override public Void visitThrow(ThrowTree tree, Void nothing) {
        boolean isPlain = tree.getExpression() instanceof NewClassTree made
                && EXCEPTIONS.contains(made.getIdentifier().toString())
                && made.getArguments().stream().allMatch(text -> text.getKind() == Tree.Kind.STRING_LITERAL);
        holds(6, tree, isPlain && methodAround() != null && !isInConstructor());
        return super.visitThrow(tree, nothing);
    }

    @Override public Void visitLiteral(LiteralTree tree, Void nothing) {
        if (tree.getValue() instanceof String || tree.getValue() instanceof Character) {
            holds(4, tree, tree.getValue().toString().chars().allMatch(sign -> sign >= 1 && sign <= 127));
        }
        return super.visitLiteral(tree, nothing);
    }

    @Override public Void visitBinary(BinaryTree tree, Void nothing) {
        boolean hasText = isString(tree.getLeftOperand()) || isString(tree.getRightOperand());
        holds(tree.getKind() == Tree.Kind.PLUS ? 10 : 6, tree, !hasText);
        return super.visitBinary(tree, nothing);
    }

    @Override public Void visitCompoundAssignment(CompoundAssignmentTree tree, Void nothing) {
        holds(10, tree, !isString(tree.getVariable()));
        return super.visitCompoundAssignment(tree, nothing);
    }

    /** Only casts of numbers: these never throw. */
    @Override public Void visitTypeCast(TypeCastTree tree, Void nothing) {
        holds(7, tree, typeOf(tree.getType()).getKind().isPrimitive());
        return super.visitTypeCast(tree, nothing);
    }

    // ---- rules 3 and 5: fields and types

    @Override public Void visitVariable(VariableTree tree, Void nothing) {
        TypeMirror type = trees.getTypeMirror(getCurrentPath());
        holds(3, tree, isAllowed(type));
        boolean isField = getCurrentPath().getParentPath().getLeaf() instanceof ClassTree;
        if (isField && tree.getModifiers().getFlags().contains(Modifier.STATIC)) {
            boolean isConstant = type.getKind() == TypeKind.INT || isOwnEnum(type)
                    || tree.getInitializer().toString().equals("Sign.values()");
            holds(5, tree, isConstant && tree.getModifiers().getFlags().contains(Modifier.FINAL));
        }
        return super.visitVariable(tree, nothing);
    }

    private boolean isAllowed(TypeMirror type) {
        if (type instanceof ArrayType row) {
            return row.getComponentType().getKind() != TypeKind.ARRAY && isAllowed(row.getComponentType());
        }
        return type.getKind().isPrimitive() || type.toString().equals("java.lang.String") || isOwn(type.toString());
    }

    private boolean isOwnEnum(TypeMirror type) {
        return type.toString().equals("TideLots.Sign");
    }

    private static boolean isOwn(String name) {
        return name.equals("TideLots") || name.startsWith("TideLots.");
    }

    @Override public Void visitBlock(BlockTree tree, Void nothing) {
        holds(5, tree, !(getCurrentPath().getParentPath().getLeaf() instanceof ClassTree));
        return super.visitBlock(tree, nothing);
    }

    // ---- rule 9: loops

    @Override public Void visitWhileLoop(WhileLoopTree tree, Void nothing) {
        holds(9, tree, canEnd(tree.getCondition()));
        return super.visitWhileLoop(tree, nothing);
    }

    @Override public Void visitDoWhileLoop(DoWhileLoopTree tree, Void nothing) {
        holds(9, tree, canEnd(tree.getCondition()));
        return super.visitDoWhileLoop(tree, nothing);
    }

    @Override public Void visitForLoop(ForLoopTree tree, Void nothing) {
        holds(9, tree, tree.getCondition() != null && canEnd(tree.getCondition()) && !tree.getUpdate().isEmpty());
        return super.visitForLoop(tree, nothing);
    }

    private static boolean canEnd(ExpressionTree condition) {
        String text = condition.toString();
        return text.contains("<") || text.contains(">");
    }

    // ---- rules 8, 11, 12: classes, methods, calls, objects

    @Override public Void visitClass(ClassTree tree, Void nothing) {
        classes++;
        long fields = tree.getMembers().stream().filter(member -> member instanceof VariableTree field
                && !field.getModifiers().getFlags().contains(Modifier.STATIC)).count();
        holds(11, tree, fields <= MOST_FIELDS);
        holds(2, tree, methodAround() == null);
        return super.visitClass(tree, nothing);
    }

    @Override public Void visitMethod(MethodTree tree, Void nothing) {
        Element method = trees.getElement(getCurrentPath());
        methods.put(method, tree);
        called.computeIfAbsent(method, key -> new java.util.LinkedHashSet<>());
        holds(6, tree, !FORBIDDEN_NAMES.contains(tree.getName().toString()));
        holds(11, tree, tree.getParameters().size() <= MOST_PARAMETERS);
        long first = lineOf(Math.max(0, trees.getSourcePositions().getStartPosition(unit, tree)));
        long last = lineOf(Math.max(0, trees.getSourcePositions().getEndPosition(unit, tree)));
        holds(11, tree, last - first < MOST_LINES);
        return super.visitMethod(tree, nothing);
    }

    @Override public Void visitMethodInvocation(MethodInvocationTree tree, Void nothing) {
        Element method = trees.getElement(getCurrentPath());
        String owner = ((TypeElement) method.getEnclosingElement()).getQualifiedName().toString();
        boolean isSuper = tree.getMethodSelect().toString().equals("super");
        if (isOwn(owner)) {
            noteCall(method);
        } else if (!isSuper) {
            holds(4, tree, LIBRARY.contains(owner.replace("java.lang.", "") + "." + method.getSimpleName()));
        }
        return super.visitMethodInvocation(tree, nothing);
    }

    @Override public Void visitNewClass(NewClassTree tree, Void nothing) {
        boolean isThrown = getCurrentPath().getParentPath().getLeaf() instanceof ThrowTree;
        holds(4, tree, isThrown || isOwn(typeOf(tree.getIdentifier()).toString()));
        holds(12, tree, !isInLoop() || isInConstructor());
        if (!isThrown) {
            holds(12, tree, isInConstructor() || isInTeachOrAField());
            noteCall(trees.getElement(getCurrentPath()));
        }
        return super.visitNewClass(tree, nothing);
    }

    @Override public Void visitNewArray(NewArrayTree tree, Void nothing) {
        holds(12, tree, methodAround() == null || isInConstructor());
        return super.visitNewArray(tree, nothing);
    }

    private void noteCall(Element method) {
        Element caller = methodAround();
        if (caller != null) {
            called.computeIfAbsent(caller, key -> new java.util.LinkedHashSet<>()).add(method);
        }
    }

    private void countClassesAndCalls() {
        Due.isTrue("rule 11: " + classes + " classes", classes <= MOST_CLASSES);
        for (Element method : methods.keySet()) {
            if (reached(method).contains(method)) {
                boolean isCounted = methods.get(method).getParameters().stream()
                        .anyMatch(parameter -> parameter.getName().contentEquals("depth"));
                Due.isTrue("rule 8: " + method + " calls itself, and has its depth as an argument", isCounted);
            }
            int open = callsOpen(method);
            Due.isTrue("rule 11: " + open + " calls open below " + method, open <= MOST_OPEN_CALLS);
        }
    }

    /** All that a call of this method can call, and what these can call. */
    private Set<Element> reached(Element method) {
        Set<Element> reached = new java.util.LinkedHashSet<>();
        java.util.ArrayDeque<Element> left = new java.util.ArrayDeque<>(called.getOrDefault(method, Set.of()));
        while (!left.isEmpty()) {
            Element next = left.pop();
            if (reached.add(next)) {
                left.addAll(called.getOrDefault(next, Set.of()));
            }
        }
        return reached;
    }

    /** With this one; methods that call one another count as one. */
    private int callsOpen(Element method) {
        Integer known = deepest.get(method);
        if (known != null) {
            return known;
        }
        Set<Element> ring = new java.util.LinkedHashSet<>(Set.of(method));
        for (Element other : reached(method)) {
            if (reached(other).contains(method)) {
                ring.add(other);
            }
        }
        int below = 0;
        for (Element one : ring) {
            for (Element next : called.getOrDefault(one, Set.of())) {
                below = ring.contains(next) ? below : Math.max(below, callsOpen(next));
            }
        }
        deepest.put(method, below + 1);
        return below + 1;
    }
}
