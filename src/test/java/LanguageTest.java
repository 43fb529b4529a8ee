import com.sun.source.tree.ArrayTypeTree;
import com.sun.source.tree.BinaryTree;
import com.sun.source.tree.ClassTree;
import com.sun.source.tree.CompilationUnitTree;
import com.sun.source.tree.CompoundAssignmentTree;
import com.sun.source.tree.DoWhileLoopTree;
import com.sun.source.tree.ForLoopTree;
import com.sun.source.tree.MethodInvocationTree;
import com.sun.source.tree.MethodTree;
import com.sun.source.tree.NewArrayTree;
import com.sun.source.tree.NewClassTree;
import com.sun.source.tree.Tree;
import com.sun.source.tree.VariableTree;
import com.sun.source.tree.WhileLoopTree;
import com.sun.source.util.JavacTask;
import com.sun.source.util.TreePathScanner;
import com.sun.source.util.Trees;
import java.io.IOException;
import java.nio.file.Files;
import java.nio.file.Path;
import java.util.EnumSet;
import java.util.HashMap;
import java.util.LinkedHashSet;
import java.util.List;
import java.util.Map;
import java.util.Set;
import javax.lang.model.element.Element;
import javax.lang.model.element.ElementKind;
import javax.lang.model.element.ExecutableElement;
import javax.lang.model.element.Modifier;
import javax.lang.model.type.ArrayType;
import javax.lang.model.type.TypeKind;
import javax.lang.model.type.TypeMirror;
import javax.tools.JavaCompiler;
import javax.tools.StandardJavaFileManager;
import javax.tools.ToolProvider;

/**
 * The rules of ../shared/LANGUAGE.md, seen in the program's tree as the compiler reads it; where the program
 * needs less than a rule leaves it, it is held to that: no texts, no lists, no classes but plain nested ones.
 * What rule 7 asks is seen in runs (TermsRefusedTest, ModelTest), what rule 12 counts in RoomTest.
 */
public final class LanguageTest extends TreePathScanner<Void, Void> {
    private static final int MOST_CLASSES = 12, MOST_FIELDS = 20, MOST_PARAMETERS = 7, MOST_LINES = 60, DEEPEST = 8;
    private static final Set<Tree.Kind> BARRED = EnumSet.of(Tree.Kind.THROW, Tree.Kind.TRY, Tree.Kind.CATCH,
        Tree.Kind.SYNCHRONIZED, Tree.Kind.ASSERT, Tree.Kind.LAMBDA_EXPRESSION, Tree.Kind.MEMBER_REFERENCE,
        Tree.Kind.INSTANCE_OF, Tree.Kind.TYPE_CAST, Tree.Kind.STRING_LITERAL, Tree.Kind.SWITCH_EXPRESSION,
        Tree.Kind.IMPORT, Tree.Kind.PACKAGE, Tree.Kind.INTERFACE, Tree.Kind.ENUM, Tree.Kind.RECORD,
        Tree.Kind.ANNOTATION, Tree.Kind.PARAMETERIZED_TYPE, Tree.Kind.UNION_TYPE, Tree.Kind.LABELED_STATEMENT);
    private static final Set<String> LIBRARY = Set.of("java.lang.Math.min(int,int)", "java.lang.Math.max(int,int)",
        "java.lang.Integer.bitCount(int)");
    private static final Set<TypeKind> NUMBERS = EnumSet.of(TypeKind.INT, TypeKind.BOOLEAN);

    private final Due due = new Due("LanguageTest");
    private final CompilationUnitTree unit;
    private final Trees trees;
    private final Map<Element, Set<Element>> calls = new HashMap<>();
    private int classes = 0;

    private LanguageTest(JavacTask task) throws IOException {
        unit = task.parse().iterator().next();
        task.analyze();
        trees = Trees.instance(task);
    }

    public static void main(String[] args) throws IOException {
        Path program = Path.of(args.length > 0 ? args[0] : "src/main/java/ViewBroadcast.java");
        JavaCompiler compiler = ToolProvider.getSystemJavaCompiler();
        try (StandardJavaFileManager files = compiler.getStandardFileManager(null, null, null)) {
            new LanguageTest((JavacTask) compiler.getTask(null, files, null, List.of("-proc:none"), null,
                files.getJavaFileObjects(program))).look(Files.readString(program));
        }
    }

    private void look(String text) {
        due.due("signs beyond 126", text.chars().anyMatch(c -> c > 126) ? 1 : 0, 0);
        due.due("rule 1, what stands in the file", unit.getTypeDecls().size(), 1);
        scan(unit, null);
        due.due("rule 11, too many classes", classes, Math.min(classes, MOST_CLASSES));
        for (Element method : calls.keySet()) {
            int depth = depthOf(method, new LinkedHashSet<>());
            due.due("rule 11, how deep " + method + " goes", depth, Math.min(depth, DEEPEST));
        }
        due.end();
    }

    /** How many calls are open at once at most, counting this one. */
    private int depthOf(Element method, Set<Element> open) {
        if (!open.add(method)) {
            due.due("rule 8, a call of itself in " + open, 1, 0);
            return 0;
        }
        int deepest = 0;
        for (Element called : calls.getOrDefault(method, Set.of())) {
            deepest = Math.max(deepest, depthOf(called, open));
        }
        open.remove(method);
        return deepest + 1;
    }

    private void barred(String rule, Tree tree, boolean broken) {
        if (broken) {
            long line = unit.getLineMap().getLineNumber(trees.getSourcePositions().getStartPosition(unit, tree));
            due.due("rule " + rule + ", line " + line, 1, 0);
        }
    }

    private Element here() {
        return trees.getElement(getCurrentPath());
    }

    /** The method that the scanner is in; null in a field's initialiser. */
    private Element aroundHere() {
        for (Tree tree : getCurrentPath()) {
            if (tree instanceof MethodTree) {
                return trees.getElement(trees.getPath(unit, tree));
            }
        }
        return null;
    }

    private boolean isOwn(Element e) {
        return trees.getTree(e) != null;
    }

    @Override
    public Void scan(Tree tree, Void unused) {
        barred("2, 3, 6 or 10: " + (tree == null ? "" : tree.getKind()), tree, tree != null && BARRED.contains(tree.getKind()));
        return super.scan(tree, unused);
    }

    @Override
    public Void visitClass(ClassTree tree, Void unused) {
        classes++;
        Set<Modifier> is = here().getModifiers();
        boolean outer = here().getEnclosingElement().getKind() == ElementKind.PACKAGE;
        boolean nested = here().getEnclosingElement().getKind() == ElementKind.CLASS;
        barred("1: public and final", tree, outer && !is.containsAll(Set.of(Modifier.PUBLIC, Modifier.FINAL)));
        barred("2: neither outermost nor a member of a class", tree, !outer && !nested);
        barred("2: not static", tree, !outer && !is.contains(Modifier.STATIC));
        barred("1: open", tree, !outer && (is.contains(Modifier.PUBLIC) || is.contains(Modifier.PROTECTED)));
        int fields = 0;
        for (Tree member : tree.getMembers()) {
            fields += member instanceof VariableTree
                && !((VariableTree) member).getModifiers().getFlags().contains(Modifier.STATIC) ? 1 : 0;
            barred("5: an initialiser block", member, member.getKind() == Tree.Kind.BLOCK);
        }
        barred("11: fields", tree, fields > MOST_FIELDS);
        return super.visitClass(tree, unused);
    }

    @Override
    public Void visitVariable(VariableTree tree, Void unused) {
        Element e = here();
        barred("3: type", tree, !isAllowed(e.asType()));
        if (e.getKind() == ElementKind.FIELD) {
            Set<Modifier> is = e.getModifiers();
            barred("5: static", tree, is.contains(Modifier.STATIC) && !is.contains(Modifier.FINAL));
            barred("5: no constant", tree, is.contains(Modifier.STATIC) && e.asType().getKind() != TypeKind.INT);
            boolean outer = e.getEnclosingElement().getEnclosingElement().getKind() == ElementKind.PACKAGE;
            boolean face = is.containsAll(Set.of(Modifier.PUBLIC, Modifier.STATIC, Modifier.FINAL));
            barred("1: a field in the face", tree, outer && !face && !is.contains(Modifier.PRIVATE));
        }
        return super.visitVariable(tree, unused);
    }

    private boolean isAllowed(TypeMirror type) {
        TypeMirror of = type.getKind() == TypeKind.ARRAY ? ((ArrayType) type).getComponentType() : type;
        return NUMBERS.contains(of.getKind()) || of.getKind() == TypeKind.DECLARED && isOwn(ownerOf(of));
    }

    private static Element ownerOf(TypeMirror type) {
        return ((javax.lang.model.type.DeclaredType) type).asElement();
    }

    @Override
    public Void visitMethod(MethodTree tree, Void unused) {
        ExecutableElement method = (ExecutableElement) here();
        calls.putIfAbsent(method, new LinkedHashSet<>());
        boolean outer = method.getEnclosingElement().getEnclosingElement().getKind() == ElementKind.PACKAGE;
        Set<Modifier> is = method.getModifiers();
        barred("1: half open", tree, outer && !is.contains(Modifier.PUBLIC) && !is.contains(Modifier.PRIVATE));
        barred("1: a public one's name", tree, is.contains(Modifier.PRIVATE) && isInFace(method.getSimpleName().toString()));
        barred("11: parameters", tree, tree.getParameters().size() > MOST_PARAMETERS);
        barred("11: lines", tree, tree.toString().split("\n").length > MOST_LINES);
        barred("3: answer", tree, method.getReturnType().getKind() != TypeKind.VOID && !isAllowed(method.getReturnType()));
        barred("6: throws", tree, !tree.getThrows().isEmpty());
        return super.visitMethod(tree, unused);
    }

    private static boolean isInFace(String name) {
        for (java.lang.reflect.Method m : ViewBroadcast.class.getMethods()) {
            if (m.getName().equals(name)) {
                return true;
            }
        }
        return false;
    }

    @Override
    public Void visitMethodInvocation(MethodInvocationTree tree, Void unused) {
        Element called = here(), in = aroundHere();
        String name = called.getEnclosingElement() + "." + called;
        boolean parent = called.getKind() == ElementKind.CONSTRUCTOR;
        barred("4: " + name, tree, !parent && !isOwn(called) && !LIBRARY.contains(name));
        barred("12: a call in a constructor, " + name, tree,
            isOwn(called) && (in == null || in.getKind() == ElementKind.CONSTRUCTOR));
        if (in != null && !parent) {
            calls.computeIfAbsent(in, k -> new LinkedHashSet<>()).add(called);
        }
        return super.visitMethodInvocation(tree, unused);
    }

    @Override
    public Void visitNewClass(NewClassTree tree, Void unused) {
        barred("2: a class without a name", tree, tree.getClassBody() != null);
        barred("12: an object made by a call", tree, isInACall());
        return super.visitNewClass(tree, unused);
    }

    @Override
    public Void visitNewArray(NewArrayTree tree, Void unused) {
        barred("12: an array made by a call", tree, isInACall());
        return super.visitNewArray(tree, unused);
    }

    private boolean isInACall() {
        return aroundHere() != null && aroundHere().getKind() != ElementKind.CONSTRUCTOR;
    }

    @Override
    public Void visitArrayType(ArrayTypeTree tree, Void unused) {
        barred("3: two dimensions", tree, tree.getType().getKind() == Tree.Kind.ARRAY_TYPE);
        return super.visitArrayType(tree, unused);
    }

    @Override
    public Void visitForLoop(ForLoopTree tree, Void unused) {
        String step = tree.getUpdate().toString();
        barred("9: no counter against a bound", tree, tree.getCondition() == null || !comparesLess(tree.getCondition().toString()));
        barred("9: no step by one", tree, !step.matches("\\w+\\+\\+;?"));
        return super.visitForLoop(tree, unused);
    }

    @Override
    public Void visitWhileLoop(WhileLoopTree tree, Void unused) {
        barred("9: no counter against a bound", tree, !comparesLess(tree.getCondition().toString()));
        return super.visitWhileLoop(tree, unused);
    }

    @Override
    public Void visitDoWhileLoop(DoWhileLoopTree tree, Void unused) {
        barred("9: no counter against a bound", tree, true);
        return super.visitDoWhileLoop(tree, unused);
    }

    private static boolean comparesLess(String condition) {
        return condition.matches(".*\\w+ (\\+ 1 )?<=? .*");
    }

    @Override
    public Void visitBinary(BinaryTree tree, Void unused) {
        boolean divides = tree.getKind() == Tree.Kind.DIVIDE || tree.getKind() == Tree.Kind.REMAINDER;
        barred("7: a divisor that is not looked at", tree, divides && !isDivisor(tree.getRightOperand().toString()));
        return super.visitBinary(tree, unused);
    }

    /** A number, a constant, or the n that draw has found to be above 1. */
    private boolean isDivisor(String right) {
        return right.matches("[1-9]\\d*|[A-Z_]+") || right.equals("n") && aroundHere().getSimpleName().contentEquals("draw");
    }

    @Override
    public Void visitCompoundAssignment(CompoundAssignmentTree tree, Void unused) {
        barred("7: a divisor that is not looked at", tree,
            tree.getKind() == Tree.Kind.DIVIDE_ASSIGNMENT || tree.getKind() == Tree.Kind.REMAINDER_ASSIGNMENT);
        return super.visitCompoundAssignment(tree, unused);
    }
}
