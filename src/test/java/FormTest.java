import com.sun.source.tree.AnnotatedTypeTree;
import com.sun.source.tree.AnnotationTree;
import com.sun.source.tree.AssertTree;
import com.sun.source.tree.AssignmentTree;
import com.sun.source.tree.BinaryTree;
import com.sun.source.tree.BlockTree;
import com.sun.source.tree.CatchTree;
import com.sun.source.tree.ClassTree;
import com.sun.source.tree.CompilationUnitTree;
import com.sun.source.tree.CompoundAssignmentTree;
import com.sun.source.tree.DoWhileLoopTree;
import com.sun.source.tree.EnhancedForLoopTree;
import com.sun.source.tree.ExpressionTree;
import com.sun.source.tree.ForLoopTree;
import com.sun.source.tree.ImportTree;
import com.sun.source.tree.InstanceOfTree;
import com.sun.source.tree.LambdaExpressionTree;
import com.sun.source.tree.LiteralTree;
import com.sun.source.tree.MemberReferenceTree;
import com.sun.source.tree.MethodInvocationTree;
import com.sun.source.tree.MethodTree;
import com.sun.source.tree.NewArrayTree;
import com.sun.source.tree.NewClassTree;
import com.sun.source.tree.SynchronizedTree;
import com.sun.source.tree.ThrowTree;
import com.sun.source.tree.Tree;
import com.sun.source.tree.TryTree;
import com.sun.source.tree.TypeCastTree;
import com.sun.source.tree.VariableTree;
import com.sun.source.tree.WhileLoopTree;
import com.sun.source.tree.WildcardTree;
import com.sun.source.util.JavacTask;
import com.sun.source.util.SourcePositions;
import com.sun.source.util.TreePath;
import com.sun.source.util.TreePathScanner;
import com.sun.source.util.Trees;
import java.io.File;
import java.io.IOException;
import java.util.ArrayDeque;
import java.util.Deque;
import java.util.HashMap;
import java.util.HashSet;
import java.util.List;
import java.util.Map;
import java.util.Set;
import java.util.function.Supplier;
import javax.lang.model.element.Element;
import javax.lang.model.element.ElementKind;
import javax.lang.model.element.ExecutableElement;
import javax.lang.model.element.Modifier;
import javax.lang.model.element.TypeElement;
import javax.lang.model.element.VariableElement;
import javax.lang.model.type.ArrayType;
import javax.lang.model.type.DeclaredType;
import javax.lang.model.type.TypeKind;
import javax.lang.model.type.TypeMirror;
import javax.tools.JavaCompiler;
import javax.tools.StandardJavaFileManager;
import javax.tools.ToolProvider;

/**
 * The form that LANGUAGE.md asks for, as far as it can be read from the source: what is not used there at all is
 * refused whole, also where a rule would let some of it be. The rule's number stands ahead of each text.
 */
final class FormTest extends TreePathScanner<Void, Void> {
    private static final String SOURCE = "src/main/java/SlowPanes.java";
    private static final Set<String> LIBRARY = Set.of("java.lang.String.length", "java.lang.String.charAt",
        "java.lang.Math.max", "java.lang.Math.min", "java.lang.System.arraycopy", "java.lang.Object.<init>");
    private static final int CLASSES_MOST = 12, FIELDS_MOST = 20, PARAMETERS_MOST = 7, LINES_MOST = 60;
    private static final int CALLS_DEEP_MOST = 8;

    private final Trees trees;
    private final JavacTask task;
    private final CompilationUnitTree unit;
    private final Set<String> publicNames = new HashSet<>();
    private final Map<ExecutableElement, Set<ExecutableElement>> calls = new HashMap<>();
    private final Deque<ExecutableElement> inMethods = new ArrayDeque<>();
    private int classes = 0;
    private int loops = 0;

    private FormTest(JavacTask task, CompilationUnitTree unit) {
        this.task = task;
        this.trees = Trees.instance(task);
        this.unit = unit;
    }

    static void run() {
        JavaCompiler compiler = ToolProvider.getSystemJavaCompiler();
        try (StandardJavaFileManager files = compiler.getStandardFileManager(null, null, null)) {
            JavacTask task = (JavacTask) compiler.getTask(null, files, null, List.of("-proc:none"), null,
                files.getJavaFileObjects(new File(SOURCE)));
            CompilationUnitTree unit = task.parse().iterator().next();
            task.analyze();
            new FormTest(task, unit).read();
        } catch (IOException e) {
            throw new IllegalStateException(SOURCE, e);
        }
    }

    private void read() {
        Check.isTrue("the form: no package line", unit.getPackageName() == null);
        Check.due("the form: one public class, and none beside it", unit.getTypeDecls().size(), 1);
        for (Element member : trees.getElement(path(unit.getTypeDecls().get(0))).getEnclosedElements()) {
            if (member.getKind() == ElementKind.METHOD && member.getModifiers().contains(Modifier.PUBLIC)) {
                publicNames.add(member.getSimpleName().toString());
            }
        }
        Check.due("rule 1: the public methods", publicNames.size(), 42 - 1);
        scan(unit, null);
        Check.isTrue("rule 11: " + classes + " classes", classes <= CLASSES_MOST);
        depthsAreSmall();
    }

    private TreePath path(Tree tree) {
        return trees.getPath(unit, tree);
    }

    private Element elementOf(Tree tree) {
        return trees.getElement(path(tree));
    }

    private TypeMirror typeOf(Tree tree) {
        return trees.getTypeMirror(path(tree));
    }

    private String place(Tree tree) {
        return "line " + line(trees.getSourcePositions().getStartPosition(unit, tree));
    }

    private long line(long position) {
        return unit.getLineMap().getLineNumber(position);
    }

    private void isTrue(int rule, String what, Tree tree, boolean holds) {
        Check.isTrue("rule " + rule + ": " + what + ", " + place(tree), holds);
    }

    private Void never(int rule, String what, Tree tree) {
        isTrue(rule, "no " + what, tree, false);
        return null;
    }

    @Override
    public Void visitImport(ImportTree tree, Void none) {
        return never(4, "import", tree);
    }

    @Override
    public Void visitThrow(ThrowTree tree, Void none) {
        return never(6, "throw", tree);
    }

    @Override
    public Void visitTry(TryTree tree, Void none) {
        return never(6, "try", tree);
    }

    @Override
    public Void visitCatch(CatchTree tree, Void none) {
        return never(6, "catch", tree);
    }

    @Override
    public Void visitSynchronized(SynchronizedTree tree, Void none) {
        return never(6, "synchronized", tree);
    }

    @Override
    public Void visitAssert(AssertTree tree, Void none) {
        return never(6, "assert", tree);
    }

    @Override
    public Void visitInstanceOf(InstanceOfTree tree, Void none) {
        return never(6, "instanceof is needed", tree);
    }

    @Override
    public Void visitLambdaExpression(LambdaExpressionTree tree, Void none) {
        return never(2, "lambda", tree);
    }

    @Override
    public Void visitMemberReference(MemberReferenceTree tree, Void none) {
        return never(2, "method reference", tree);
    }

    @Override
    public Void visitAnnotation(AnnotationTree tree, Void none) {
        return never(4, "annotation", tree);
    }

    @Override
    public Void visitAnnotatedType(AnnotatedTypeTree tree, Void none) {
        return never(4, "annotation", tree);
    }

    @Override
    public Void visitWildcard(WildcardTree tree, Void none) {
        return never(3, "wildcard", tree);
    }

    @Override
    public Void visitBlock(BlockTree tree, Void none) {
        isTrue(5, "no static initialiser block", tree, !tree.isStatic());
        return super.visitBlock(tree, none);
    }

    @Override
    public Void visitForLoop(ForLoopTree tree, Void none) {
        return loop(tree, tree.getCondition(), () -> super.visitForLoop(tree, none));
    }

    @Override
    public Void visitWhileLoop(WhileLoopTree tree, Void none) {
        return loop(tree, tree.getCondition(), () -> super.visitWhileLoop(tree, none));
    }

    @Override
    public Void visitDoWhileLoop(DoWhileLoopTree tree, Void none) {
        return never(9, "do is needed", tree);
    }

    @Override
    public Void visitEnhancedForLoop(EnhancedForLoopTree tree, Void none) {
        return never(9, "for over a row is needed", tree);
    }

    /** A loop goes up to a bound; what is made in one is made once, with the object. */
    private Void loop(Tree tree, ExpressionTree condition, Supplier<Void> inside) {
        isTrue(9, "a counter against a bound", tree, condition != null && condition.toString().contains(" <"));
        loops++;
        inside.get();
        loops--;
        return null;
    }

    private void isMadeOutsideOfLoops(Tree tree) {
        boolean isInConstructor = !inMethods.isEmpty() && inMethods.peek().getKind() == ElementKind.CONSTRUCTOR;
        isTrue(12, "not made in a loop", tree, loops == 0 || isInConstructor);
    }

    @Override
    public Void visitNewArray(NewArrayTree tree, Void none) {
        isMadeOutsideOfLoops(tree);
        return super.visitNewArray(tree, none);
    }

    @Override
    public Void visitClass(ClassTree tree, Void none) {
        classes++;
        Element element = elementOf(tree);
        Set<Modifier> modifiers = element.getModifiers();
        isTrue(2, "a class, not an enum or the like", tree, element.getKind() == ElementKind.CLASS);
        if (element.getEnclosingElement().getKind() == ElementKind.PACKAGE) {
            isTrue(1, "public and final", tree, modifiers.equals(Set.of(Modifier.PUBLIC, Modifier.FINAL)));
        } else {
            isTrue(2, "static, inside a class", tree, modifiers.contains(Modifier.STATIC)
                && element.getEnclosingElement().getKind() == ElementKind.CLASS);
            isTrue(1, "hidden", tree, !modifiers.contains(Modifier.PUBLIC) && !modifiers.contains(Modifier.PROTECTED));
        }
        int fields = 0;
        for (Element member : element.getEnclosedElements()) {
            boolean isField = member.getKind() == ElementKind.FIELD;
            fields += isField && !member.getModifiers().contains(Modifier.STATIC) ? 1 : 0;
        }
        isTrue(11, fields + " fields", tree, fields <= FIELDS_MOST);
        return super.visitClass(tree, none);
    }

    @Override
    public Void visitNewClass(NewClassTree tree, Void none) {
        isTrue(2, "no anonymous class", tree, tree.getClassBody() == null);
        isMadeOutsideOfLoops(tree);
        noteCall((ExecutableElement) elementOf(tree));
        return super.visitNewClass(tree, none);
    }

    @Override
    public Void visitMethod(MethodTree tree, Void none) {
        ExecutableElement method = (ExecutableElement) elementOf(tree);
        SourcePositions positions = trees.getSourcePositions();
        long first = positions.getStartPosition(unit, tree);
        if (first >= 0) {
            // a constructor that the compiler adds has no place in the source
            long lines = line(positions.getEndPosition(unit, tree)) - line(first) + 1;
            isTrue(11, lines + " lines", tree, lines <= LINES_MOST);
        }
        isTrue(11, "parameters", tree, tree.getParameters().size() <= PARAMETERS_MOST);
        isTrue(6, "no exceptions", tree, tree.getThrows().isEmpty());
        isTrue(3, "no generic method", tree, tree.getTypeParameters().isEmpty());
        String name = method.getSimpleName().toString();
        isTrue(6, "no " + name, tree, !Set.of("equals", "hashCode", "toString", "finalize", "clone").contains(name));
        if (!method.getModifiers().contains(Modifier.PUBLIC)) {
            isTrue(1, name + " bears the name of no public one", tree, !publicNames.contains(name));
        }
        calls.putIfAbsent(method, new HashSet<>());
        inMethods.push(method);
        super.visitMethod(tree, none);
        inMethods.pop();
        return null;
    }

    @Override
    public Void visitVariable(VariableTree tree, Void none) {
        VariableElement variable = (VariableElement) elementOf(tree);
        isTrue(3, tree.getType() + " " + tree.getName(), tree, isTaken(typeOf(tree)));
        if (variable.getKind() == ElementKind.FIELD && variable.getModifiers().contains(Modifier.STATIC)) {
            isTrue(5, "a constant", tree, variable.getModifiers().contains(Modifier.FINAL)
                && variable.getConstantValue() != null);
        }
        return super.visitVariable(tree, none);
    }

    private boolean isTaken(TypeMirror type) {
        if (type.getKind() == TypeKind.ARRAY) {
            TypeMirror of = ((ArrayType) type).getComponentType();
            return of.getKind() != TypeKind.ARRAY && isTaken(of);
        }
        if (type.getKind() == TypeKind.DECLARED) {
            return isOwn(((DeclaredType) type).asElement()) || type.toString().equals("java.lang.String");
        }
        // doubles and floats are not used
        return Set.of(TypeKind.INT, TypeKind.LONG, TypeKind.BOOLEAN, TypeKind.CHAR).contains(type.getKind());
    }

    private boolean isOwn(Element element) {
        Element outermost = element;
        while (outermost.getEnclosingElement().getKind() != ElementKind.PACKAGE) {
            outermost = outermost.getEnclosingElement();
        }
        return outermost.getSimpleName().contentEquals("SlowPanes");
    }

    @Override
    public Void visitTypeCast(TypeCastTree tree, Void none) {
        isTrue(6, "a cast of numbers", tree, typeOf(tree).getKind().isPrimitive());
        return super.visitTypeCast(tree, none);
    }

    @Override
    public Void visitLiteral(LiteralTree tree, Void none) {
        if (tree.getValue() instanceof String) {
            for (char c : ((String) tree.getValue()).toCharArray()) {
                isTrue(4, "signs 1 to 127", tree, c >= 1 && c <= 127);
            }
        }
        return super.visitLiteral(tree, none);
    }

    @Override
    public Void visitBinary(BinaryTree tree, Void none) {
        boolean isText = isText(tree.getLeftOperand()) || isText(tree.getRightOperand());
        isTrue(10, "no " + tree.getKind() + " of texts", tree, !isText);
        if (tree.getKind() == Tree.Kind.DIVIDE || tree.getKind() == Tree.Kind.REMAINDER) {
            divides(tree, tree.getRightOperand());
        }
        return super.visitBinary(tree, none);
    }

    private boolean isText(Tree tree) {
        return typeOf(tree).toString().equals("java.lang.String");
    }

    /** The divisor is a number written out, or one that its method compares with 0. */
    private void divides(Tree tree, ExpressionTree by) {
        boolean isNumber = by instanceof LiteralTree && !by.toString().equals("0");
        String method = trees.getTree(inMethods.peek()).toString();
        isTrue(7, "the divisor " + by + " is looked at", tree, isNumber || method.contains("if (" + by + " == 0)"));
    }

    @Override
    public Void visitCompoundAssignment(CompoundAssignmentTree tree, Void none) {
        isTrue(10, "a number is added to", tree, !isText(tree.getVariable()));
        Tree.Kind kind = tree.getKind();
        isTrue(7, "no /=", tree, kind != Tree.Kind.DIVIDE_ASSIGNMENT && kind != Tree.Kind.REMAINDER_ASSIGNMENT);
        return super.visitCompoundAssignment(tree, none);
    }

    @Override
    public Void visitAssignment(AssignmentTree tree, Void none) {
        isTrue(5, "no static is set", tree, !elementIsStatic(tree.getVariable()));
        return super.visitAssignment(tree, none);
    }

    private boolean elementIsStatic(Tree tree) {
        Element element = elementOf(tree);
        return element != null && element.getModifiers().contains(Modifier.STATIC);
    }

    @Override
    public Void visitMethodInvocation(MethodInvocationTree tree, Void none) {
        ExecutableElement called = (ExecutableElement) elementOf(tree);
        String name = called.getEnclosingElement() + "." + called.getSimpleName();
        isTrue(4, name, tree, isOwn(called) || LIBRARY.contains(name));
        noteCall(called);
        if (!tree.getMethodSelect().toString().startsWith("super.")) {
            noteOverriding(called);
        }
        return super.visitMethodInvocation(tree, none);
    }

    private void noteCall(ExecutableElement called) {
        if (!inMethods.isEmpty() && isOwn(called)) {
            calls.computeIfAbsent(inMethods.peek(), m -> new HashSet<>()).add(called);
        }
    }

    /** Whichever of these runs is known to the object alone. */
    private void noteOverriding(ExecutableElement called) {
        TypeElement outer = (TypeElement) elementOf(unit.getTypeDecls().get(0));
        for (Element inside : outer.getEnclosedElements()) {
            for (Element member : inside.getEnclosedElements()) {
                if (member.getKind() == ElementKind.METHOD && task.getElements()
                    .overrides((ExecutableElement) member, called, (TypeElement) inside)) {
                    noteCall((ExecutableElement) member);
                }
            }
        }
    }

    private void depthsAreSmall() {
        for (ExecutableElement method : calls.keySet()) {
            if (method.getModifiers().contains(Modifier.PUBLIC)) {
                int deep = deepest(method, 0);
                Check.isTrue("rule 11: " + deep + " calls stand open in " + method, deep <= CALLS_DEEP_MOST);
            }
        }
    }

    /** How many calls stand open below a method at most; a recursion would be caught by the guard. */
    private int deepest(ExecutableElement method, int guard) {
        if (guard > 40) {
            return guard;
        }
        int deepest = 0;
        for (ExecutableElement called : calls.getOrDefault(method, Set.of())) {
            deepest = Math.max(deepest, 1 + deepest(called, guard + 1));
        }
        return deepest;
    }
}
