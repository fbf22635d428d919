import com.sun.source.tree.AnnotationTree;
import com.sun.source.tree.AssertTree;
import com.sun.source.tree.AssignmentTree;
import com.sun.source.tree.BinaryTree;
import com.sun.source.tree.BlockTree;
import com.sun.source.tree.CaseTree;
import com.sun.source.tree.CatchTree;
import com.sun.source.tree.ClassTree;
import com.sun.source.tree.CompilationUnitTree;
import com.sun.source.tree.CompoundAssignmentTree;
import com.sun.source.tree.DoWhileLoopTree;
import com.sun.source.tree.ExpressionTree;
import com.sun.source.tree.ForLoopTree;
import com.sun.source.tree.InstanceOfTree;
import com.sun.source.tree.LambdaExpressionTree;
import com.sun.source.tree.LiteralTree;
import com.sun.source.tree.MemberReferenceTree;
import com.sun.source.tree.MethodInvocationTree;
import com.sun.source.tree.MethodTree;
import com.sun.source.tree.NewArrayTree;
import com.sun.source.tree.NewClassTree;
import com.sun.source.tree.SynchronizedTree;
import com.sun.source.tree.ThrowTree;
import com.sun.source.tree.Tree;
import com.sun.source.tree.TryTree;
import com.sun.source.tree.TypeCastTree;
import com.sun.source.tree.UnaryTree;
import com.sun.source.tree.VariableTree;
import com.sun.source.tree.WhileLoopTree;
import com.sun.source.util.JavacTask;
import com.sun.source.util.TreePath;
import com.sun.source.util.TreePathScanner;
import com.sun.source.util.Trees;
import java.io.IOException;
import java.nio.file.Path;
import java.util.ArrayList;
import java.util.HashMap;
import java.util.HashSet;
import java.util.List;
import java.util.Map;
import java.util.Set;
import java.util.TreeSet;
import javax.lang.model.element.Element;
import javax.lang.model.element.Modifier;
import javax.lang.model.element.TypeElement;
import javax.lang.model.type.TypeKind;
import javax.lang.model.type.TypeMirror;
import javax.tools.JavaCompiler;
import javax.tools.StandardJavaFileManager;
import javax.tools.ToolProvider;

/**
 * The rules of LANGUAGE.md on the file as javac reads it; where a rule allows what the class has no need of (lists, enums,
 * catches, recursion), this is stricter, and is to be widened when the class comes to need it.
 */
public final class RuleTests extends TreePathScanner<Void, Void> {
    private static final Path FILE = Path.of("src/main/java/NumberLeases.java");
    private static final int MOST_LINES = 60;
    private static final int MOST_PARAMETERS = 7;
    private static final int MOST_CLASSES = 12;
    private static final int MOST_FIELDS = 20;
    private static final int MOST_DEEP = 8;

    private static final Set<String> TYPES = Set.of("int", "long", "short", "byte", "char", "boolean", "double", "float", "void",
        "java.lang.String");
    private static final Set<String> CONSTANT_TYPES = Set.of("int", "long", "boolean", "char", "java.lang.String", "int[]",
        "long[]", "char[]", "byte[]");
    private static final Set<String> LIBRARY = Set.of("java.lang.System.arraycopy", "java.lang.Math.min", "java.lang.Math.max",
        "java.lang.Object.<init>");
    private static final Set<String> EXCEPTIONS = Set.of("java.lang.IllegalStateException",
        "java.lang.IllegalArgumentException", "java.lang.IndexOutOfBoundsException", "java.lang.ArithmeticException",
        "java.lang.UnsupportedOperationException", "java.util.NoSuchElementException", "java.lang.RuntimeException");

    private final Trees trees;
    private final CompilationUnitTree unit;
    private final Map<Element, Set<Element>> callsOf = new HashMap<>();
    private int classes;

    private RuleTests(Trees trees, CompilationUnitTree unit) {
        this.trees = trees;
        this.unit = unit;
    }

    public static void main(String[] args) throws IOException {
        JavaCompiler compiler = ToolProvider.getSystemJavaCompiler();
        try (StandardJavaFileManager files = compiler.getStandardFileManager(null, null, null)) {
            JavacTask task = (JavacTask) compiler.getTask(null, files, null, List.of("-proc:none"), null,
                files.getJavaFileObjects(FILE));
            List<CompilationUnitTree> units = new ArrayList<>();
            task.parse().forEach(units::add);
            task.analyze();
            for (CompilationUnitTree unit : units) {
                RuleTests rules = new RuleTests(Trees.instance(task), unit);
                rules.lookAtUnit();
                rules.scan(unit, null);
                rules.lookAtCalls();
            }
        }
        Due.end();
    }

    // ---- what is read of the file

    private int line(Tree tree) {
        return (int) unit.getLineMap().getLineNumber(trees.getSourcePositions().getStartPosition(unit, tree));
    }

    private int lastLine(Tree tree) {
        return (int) unit.getLineMap().getLineNumber(trees.getSourcePositions().getEndPosition(unit, tree));
    }

    private void keeps(int rule, boolean kept, Tree tree, String what) {
        Due.is("rule " + rule + ": line " + line(tree) + ": " + what, 1, kept ? 1 : 0);
    }

    private Element element(Tree tree) {
        return trees.getElement(TreePath.getPath(unit, tree));
    }

    private TypeMirror type(Tree tree) {
        return trees.getTypeMirror(TreePath.getPath(unit, tree));
    }

    private static Element classOf(Element member) {
        Element at = member;
        while (at != null && !(at instanceof TypeElement)) {
            at = at.getEnclosingElement();
        }
        return at;
    }

    /** The name of a class of the library's, or "" for one of the file's. */
    private static String outside(Element owner) {
        String name = owner instanceof TypeElement ? ((TypeElement) owner).getQualifiedName().toString() : "";
        return name.startsWith("NumberLeases") ? "" : name;
    }

    private boolean isOfType(Tree tree, String name) {
        TypeMirror type = type(tree);
        return type != null && type.toString().equals(name);
    }

    private MethodTree methodAround() {
        for (TreePath at = getCurrentPath(); at != null; at = at.getParentPath()) {
            if (at.getLeaf() instanceof MethodTree) {
                return (MethodTree) at.getLeaf();
            }
        }
        return null;
    }

    private static boolean isConstructor(MethodTree method) {
        return method != null && method.getName().contentEquals("<init>");
    }

    // ---- the rules

    private void lookAtUnit() {
        keeps(1, unit.getPackage() == null, unit, "no package line");
        keeps(1, unit.getTypeDecls().size() == 1, unit, "one class of the file");
        keeps(4, unit.getImports().isEmpty(), unit, "no imports");
    }

    @Override
    public Void visitClass(ClassTree tree, Void none) {
        classes++;
        keeps(11, classes <= MOST_CLASSES, tree, "at most " + MOST_CLASSES + " classes");
        Tree around = getCurrentPath().getParentPath().getLeaf();
        boolean isInside = !(around instanceof CompilationUnitTree);
        Set<Modifier> modifiers = tree.getModifiers().getFlags();
        keeps(2, !isInside || around instanceof ClassTree, tree, "no local and no anonymous class");
        keeps(1, !isInside || modifiers.contains(Modifier.STATIC), tree, "classes inside are static");
        keeps(1, isInside != modifiers.contains(Modifier.PUBLIC), tree, "only the one class is public");
        int fields = 0;
        for (Tree member : tree.getMembers()) {
            if (member instanceof BlockTree) {
                keeps(5, !((BlockTree) member).isStatic(), member, "no static block");
            }
            if (member instanceof VariableTree) {
                boolean isStatic = ((VariableTree) member).getModifiers().getFlags().contains(Modifier.STATIC);
                fields += isStatic ? 0 : 1;
                if (isStatic) {
                    lookAtConstant((VariableTree) member);
                }
            }
        }
        keeps(11, fields <= MOST_FIELDS, tree, "at most " + MOST_FIELDS + " fields");
        return super.visitClass(tree, none);
    }

    private void lookAtConstant(VariableTree field) {
        keeps(5, field.getModifiers().getFlags().contains(Modifier.FINAL), field, "static fields are final");
        String type = type(field).toString();
        keeps(5, CONSTANT_TYPES.contains(type), field, "no constant of the type " + type);
        boolean isRow = type.endsWith("[]");
        ExpressionTree start = field.getInitializer();
        boolean isWritten = start instanceof NewArrayTree && ((NewArrayTree) start).getInitializers() != null;
        keeps(5, start != null && (!isRow || isWritten), field, "constants are written out");
    }

    @Override
    public Void visitVariable(VariableTree tree, Void none) {
        allowed(tree, type(tree));
        return super.visitVariable(tree, none);
    }

    private void allowed(Tree tree, TypeMirror type) {
        String name = type.toString();
        String base = name.replace("[]", "");
        boolean isOwn = base.startsWith("NumberLeases");
        keeps(3, isOwn || TYPES.contains(base), tree, "the type " + name);
        int depth = (name.length() - base.length()) / 2;
        keeps(3, depth <= 1 || depth == 2 && !isOwn, tree, "an array like " + name);
    }

    @Override
    public Void visitMethod(MethodTree tree, Void none) {
        Element method = element(tree);
        callsOf.putIfAbsent(method, new HashSet<>());
        if (tree.getReturnType() != null) {
            allowed(tree, type(tree.getReturnType()));
        }
        int lines = lastLine(tree) - line(tree) + 1;
        keeps(11, lines <= MOST_LINES, tree, tree.getName() + " has " + lines + " lines");
        keeps(11, tree.getParameters().size() <= MOST_PARAMETERS, tree, tree.getName() + " has few parameters");
        boolean isOfObject = Set.of("equals", "hashCode", "toString", "finalize", "clone").contains(tree.getName().toString());
        keeps(6, !isOfObject, tree, tree.getName() + " stays as it is");
        return super.visitMethod(tree, none);
    }

    @Override
    public Void visitMethodInvocation(MethodInvocationTree tree, Void none) {
        Element called = element(tree.getMethodSelect());
        String owner = outside(classOf(called));
        if (owner.isEmpty()) {
            MethodTree from = methodAround();
            keeps(12, from != null, tree, "a field's first value is not worked out by a method");
            if (from != null) {
                callsOf.computeIfAbsent(element(from), any -> new HashSet<>()).add(called);
            }
        } else {
            String name = owner + "." + called.getSimpleName();
            keeps(4, LIBRARY.contains(name), tree, name);
        }
        return super.visitMethodInvocation(tree, none);
    }

    @Override
    public Void visitNewClass(NewClassTree tree, Void none) {
        String owner = outside(classOf(element(tree)));
        boolean isThrown = getCurrentPath().getParentPath().getLeaf() instanceof ThrowTree;
        keeps(4, owner.isEmpty() || isThrown && EXCEPTIONS.contains(owner), tree, "new " + owner);
        MethodTree from = methodAround();
        keeps(12, isThrown || from == null || isConstructor(from), tree, "calls make no objects but exceptions");
        return super.visitNewClass(tree, none);
    }

    @Override
    public Void visitNewArray(NewArrayTree tree, Void none) {
        MethodTree from = methodAround();
        keeps(12, from == null || isConstructor(from), tree, "calls make no arrays");
        for (ExpressionTree length : tree.getDimensions()) {
            keeps(7, isConstant(length), length, "lengths are constants");
        }
        return super.visitNewArray(tree, none);
    }

    private boolean isConstant(ExpressionTree tree) {
        if (tree instanceof BinaryTree) {
            return isConstant(((BinaryTree) tree).getLeftOperand()) && isConstant(((BinaryTree) tree).getRightOperand());
        }
        Element named = element(tree);
        return tree instanceof LiteralTree || named != null && named.getModifiers().contains(Modifier.STATIC);
    }

    @Override
    public Void visitThrow(ThrowTree tree, Void none) {
        ExpressionTree thrown = tree.getExpression();
        boolean isNew = thrown instanceof NewClassTree;
        keeps(6, isNew, tree, "throw new E");
        if (isNew) {
            for (ExpressionTree words : ((NewClassTree) thrown).getArguments()) {
                keeps(6, words.getKind() == Tree.Kind.STRING_LITERAL, tree, "its words are written");
            }
        }
        keeps(6, !isConstructor(methodAround()), tree, "no throw in a constructor");
        return super.visitThrow(tree, none);
    }

    @Override
    public Void visitBinary(BinaryTree tree, Void none) {
        boolean isText = isOfType(tree, "java.lang.String");
        keeps(10, !isText, tree, "no joining by +");
        boolean isSame = tree.getKind() == Tree.Kind.EQUAL_TO || tree.getKind() == Tree.Kind.NOT_EQUAL_TO;
        boolean isOfTexts = isOfType(tree.getLeftOperand(), "java.lang.String")
            || isOfType(tree.getLeftOperand(), "java.lang.Integer");
        keeps(6, !isSame || !isOfTexts, tree, "no == between texts");
        boolean isFraction = isOfType(tree, "double") || isOfType(tree, "float");
        boolean isPlain = tree.getKind() != Tree.Kind.REMAINDER;
        keeps(3, !isFraction || isPlain, tree, "only + - * / on fractions");
        return super.visitBinary(tree, none);
    }

    @Override
    public Void visitTypeCast(TypeCastTree tree, Void none) {
        keeps(6, type(tree).getKind().isPrimitive(), tree, "casts of numbers only");
        return super.visitTypeCast(tree, none);
    }

    @Override
    public Void visitAssignment(AssignmentTree tree, Void none) {
        keepsConstants(tree.getVariable());
        return super.visitAssignment(tree, none);
    }

    @Override
    public Void visitCompoundAssignment(CompoundAssignmentTree tree, Void none) {
        keepsConstants(tree.getVariable());
        keeps(10, !isOfType(tree.getVariable(), "java.lang.String"), tree, "no joining by +=");
        return super.visitCompoundAssignment(tree, none);
    }

    @Override
    public Void visitUnary(UnaryTree tree, Void none) {
        boolean isChange = tree.getKind().toString().endsWith("CREMENT");
        if (isChange) {
            keepsConstants(tree.getExpression());
        }
        return super.visitUnary(tree, none);
    }

    private void keepsConstants(ExpressionTree changed) {
        String text = changed.toString();
        keeps(5, !text.matches("[A-Z_]+(\\[.*)?"), changed, text + " is never changed");
    }

    // ---- loops

    @Override
    public Void visitForLoop(ForLoopTree tree, Void none) {
        keepsAnEnd(tree.getCondition(), tree);
        keeps(9, !tree.getUpdate().isEmpty(), tree, "the counter goes on");
        return super.visitForLoop(tree, none);
    }

    @Override
    public Void visitWhileLoop(WhileLoopTree tree, Void none) {
        keepsAnEnd(tree.getCondition(), tree);
        return super.visitWhileLoop(tree, none);
    }

    @Override
    public Void visitDoWhileLoop(DoWhileLoopTree tree, Void none) {
        keepsAnEnd(tree.getCondition(), tree);
        return super.visitDoWhileLoop(tree, none);
    }

    private void keepsAnEnd(ExpressionTree condition, Tree loop) {
        String text = condition == null ? "" : condition.toString();
        keeps(9, text.contains("<") || text.contains(">"), loop, "the loop has a bound: " + text);
    }

    // ---- what may not stand in the file, or has had no need to

    private Void ruledOut(int rule, Tree tree, String what) {
        keeps(rule, false, tree, "no " + what);
        return null;
    }

    @Override
    public Void visitLambdaExpression(LambdaExpressionTree tree, Void none) {
        return ruledOut(2, tree, "lambda");
    }

    @Override
    public Void visitMemberReference(MemberReferenceTree tree, Void none) {
        return ruledOut(2, tree, "method reference");
    }

    @Override
    public Void visitInstanceOf(InstanceOfTree tree, Void none) {
        return ruledOut(6, tree, "instanceof");
    }

    @Override
    public Void visitTry(TryTree tree, Void none) {
        return ruledOut(6, tree, "try");
    }

    @Override
    public Void visitCatch(CatchTree tree, Void none) {
        return ruledOut(6, tree, "catch");
    }

    @Override
    public Void visitSynchronized(SynchronizedTree tree, Void none) {
        return ruledOut(6, tree, "synchronized");
    }

    @Override
    public Void visitAssert(AssertTree tree, Void none) {
        return ruledOut(6, tree, "assert");
    }

    @Override
    public Void visitAnnotation(AnnotationTree tree, Void none) {
        return ruledOut(4, tree, "annotation");
    }

    @Override
    public Void visitCase(CaseTree tree, Void none) {
        for (ExpressionTree label : tree.getExpressions()) {
            TypeKind kind = type(label).getKind();
            keeps(10, kind == TypeKind.INT || kind == TypeKind.CHAR, tree, "switch on numbers");
        }
        return super.visitCase(tree, none);
    }

    // ---- calls

    /** How many calls stand open at once below this one, itself among them; a call that comes back to itself is told. */
    private int depth(Element method, Set<Element> open) {
        if (!open.add(method)) {
            Due.wrong("rule 8: " + method + " calls itself");
            return 0;
        }
        int most = 0;
        for (Element called : callsOf.getOrDefault(method, Set.of())) {
            most = Math.max(most, depth(called, open));
        }
        open.remove(method);
        return most + 1;
    }

    private void lookAtCalls() {
        Set<String> openNames = new TreeSet<>();
        for (Element method : callsOf.keySet()) {
            int deep = depth(method, new HashSet<>());
            Due.is("rule 11: " + method + " goes " + deep + " deep", 1, deep <= MOST_DEEP ? 1 : 0);
            if (method.getModifiers().contains(Modifier.PUBLIC)) {
                openNames.add(method.getSimpleName().toString());
            }
        }
        for (Element method : callsOf.keySet()) {
            boolean isOpen = method.getModifiers().contains(Modifier.PUBLIC);
            String name = method.getSimpleName().toString();
            boolean isTwice = !isOpen && !name.equals("<init>") && openNames.contains(name);
            Due.is("rule 1: " + name + " bears a public name", 0, isTwice ? 1 : 0);
        }
    }
}
