import com.sun.source.tree.AssertTree;
import com.sun.source.tree.BinaryTree;
import com.sun.source.tree.ClassTree;
import com.sun.source.tree.CompilationUnitTree;
import com.sun.source.tree.DoWhileLoopTree;
import com.sun.source.tree.ForLoopTree;
import com.sun.source.tree.ImportTree;
import com.sun.source.tree.LambdaExpressionTree;
import com.sun.source.tree.MemberReferenceTree;
import com.sun.source.tree.MethodInvocationTree;
import com.sun.source.tree.MethodTree;
import com.sun.source.tree.NewArrayTree;
import com.sun.source.tree.NewClassTree;
import com.sun.source.tree.SynchronizedTree;
import com.sun.source.tree.ThrowTree;
import com.sun.source.tree.Tree;
import com.sun.source.tree.TryTree;
import com.sun.source.tree.TypeCastTree;
import com.sun.source.tree.VariableTree;
import com.sun.source.tree.WhileLoopTree;
import com.sun.source.util.JavacTask;
import com.sun.source.util.TreePathScanner;
import com.sun.source.util.Trees;
import java.io.IOException;
import java.nio.file.Path;
import java.util.List;
import java.util.Map;
import java.util.Set;
import java.util.TreeMap;
import java.util.TreeSet;
import javax.lang.model.element.Element;
import javax.lang.model.element.ElementKind;
import javax.lang.model.element.ExecutableElement;
import javax.lang.model.element.Modifier;
import javax.lang.model.type.TypeMirror;
import javax.tools.JavaCompiler;
import javax.tools.StandardJavaFileManager;
import javax.tools.ToolProvider;

/** Reads the class as the compiler does, and looks at each statement and call with the rules of LANGUAGE.md in hand. */
final class LanguageScan extends TreePathScanner<Void, Void> {
    /** What the class uses of rule 4's library; add to it only what that rule lists. */
    private static final Set<String> LIBRARY = Set.of(
            "java.lang.Math.max(int,int)", "java.lang.Math.min(int,int)", "java.lang.Math.abs(int)",
            "java.lang.Math.min(long,long)", "java.lang.Integer.bitCount(int)", "java.lang.String.charAt(int)",
            "java.util.Arrays.fill(int[],int)", "java.util.Arrays.fill(long[],long)",
            "java.lang.System.arraycopy(java.lang.Object,int,java.lang.Object,int,int)");
    private static final Set<String> TYPES = Set.of("int", "long", "boolean", "void", "int[]", "long[]", "java.lang.String");
    private static final int MOST_PARAMETERS = 7;
    private static final int MOST_LINES = 60;
    private static final int MOST_DEPTH = 8;

    private final Due due;
    private final JavacTask task;
    private final Map<String, Set<String>> callsOf = new TreeMap<>();
    private final Set<String> mayRecurse = new TreeSet<>();
    private CompilationUnitTree unit;
    private Trees trees;
    private String method = "";

    LanguageScan(Due due, Path source) {
        this.due = due;
        JavaCompiler compiler = ToolProvider.getSystemJavaCompiler();
        StandardJavaFileManager files = compiler.getStandardFileManager(null, null, null);
        List<String> options = List.of("-proc:none", "--release", "17");
        this.task = (JavacTask) compiler.getTask(null, files, null, options, null, files.getJavaFileObjects(source));
    }

    void play() throws IOException {
        trees = Trees.instance(task);
        unit = task.parse().iterator().next();
        task.analyze();
        due.part("rules 2 to 12");
        due.yes("no package line", unit.getPackage() == null);
        due.eq("classes of the file", unit.getTypeDecls().size(), 1);
        scan(unit, null);
        callsOf.keySet().forEach(this::recursion);
        callsOf.keySet().forEach(name -> due.yes(name + " goes " + depth(name) + " deep", depth(name) <= MOST_DEPTH));
    }

    private void barred(String what, Tree tree) {
        due.yes(what + " in line " + lineOf(tree), false);
    }

    private long lineOf(Tree tree) {
        return unit.getLineMap().getLineNumber(trees.getSourcePositions().getStartPosition(unit, tree));
    }

    // ---- rules 2 and 6: what may not stand at all

    @Override
    public Void visitImport(ImportTree tree, Void none) {
        due.eq("import " + tree.getQualifiedIdentifier(),
                tree.getQualifiedIdentifier().toString().equals("java.util.Arrays") && !tree.isStatic() ? 1 : 0, 1);
        return null;
    }

    @Override
    public Void visitLambdaExpression(LambdaExpressionTree tree, Void none) {
        barred("a lambda", tree);
        return super.visitLambdaExpression(tree, none);
    }

    @Override
    public Void visitMemberReference(MemberReferenceTree tree, Void none) {
        barred("a method reference", tree);
        return super.visitMemberReference(tree, none);
    }

    @Override
    public Void visitThrow(ThrowTree tree, Void none) {
        barred("throw", tree);
        return super.visitThrow(tree, none);
    }

    @Override
    public Void visitTry(TryTree tree, Void none) {
        barred("try", tree);
        return super.visitTry(tree, none);
    }

    @Override
    public Void visitSynchronized(SynchronizedTree tree, Void none) {
        barred("synchronized", tree);
        return super.visitSynchronized(tree, none);
    }

    @Override
    public Void visitAssert(AssertTree tree, Void none) {
        barred("assert", tree);
        return super.visitAssert(tree, none);
    }

    @Override
    public Void visitClass(ClassTree tree, Void none) {
        Element element = trees.getElement(getCurrentPath());
        due.yes("a class of its own kind: " + tree.getSimpleName(), tree.getKind() == Tree.Kind.CLASS);
        due.yes("neither local nor anonymous: " + tree.getSimpleName(),
                getCurrentPath().getParentPath().getLeaf() == unit || element.getModifiers().contains(Modifier.STATIC));
        tree.getMembers().forEach(member -> due.yes("no initialiser block", member.getKind() != Tree.Kind.BLOCK));
        return super.visitClass(tree, none);
    }

    // ---- rules 3 and 5: types and static fields

    @Override
    public Void visitVariable(VariableTree tree, Void none) {
        Element element = trees.getElement(getCurrentPath());
        due.yes("type " + element.asType() + " of " + tree.getName(), mayBe(element.asType()));
        if (element.getModifiers().contains(Modifier.STATIC)) {
            boolean constant = element instanceof javax.lang.model.element.VariableElement field
                    && field.getConstantValue() != null;
            due.yes("a final constant: " + tree.getName(), constant && element.getModifiers().contains(Modifier.FINAL));
        }
        return super.visitVariable(tree, none);
    }

    private boolean mayBe(TypeMirror type) {
        String name = type.toString();
        return TYPES.contains(name) || name.matches("CensusNight\\.\\w+(\\[\\])?");
    }

    /** A cast among numbers is always safe; no other one is needed. */
    @Override
    public Void visitTypeCast(TypeCastTree tree, Void none) {
        due.yes("a cast to a number: " + tree, Set.of("int", "long", "short", "byte").contains(tree.getType().toString()));
        return super.visitTypeCast(tree, none);
    }

    /** A divisor is a constant or was looked at in the same condition or ahead of it: each one is listed here. */
    @Override
    public Void visitBinary(BinaryTree tree, Void none) {
        if (tree.getKind() == Tree.Kind.DIVIDE || tree.getKind() == Tree.Kind.REMAINDER) {
            String by = tree.getRightOperand().toString();
            boolean known = by.matches("2|BANDS") || Set.of("both / shared", "upper / shared", "500 * fives / all",
                    "greater % lesser", "ages[i] % step").contains(tree.toString());
            due.yes("a divisor that was looked at: " + tree, known);
        }
        return super.visitBinary(tree, none);
    }

    // ---- rules 4 and 12: the library, and what is made

    @Override
    public Void visitMethodInvocation(MethodInvocationTree tree, Void none) {
        Element element = trees.getElement(getCurrentPath());
        if (element instanceof ExecutableElement called && !called.getSimpleName().contentEquals("<init>")) {
            String name = nameOf(called);
            boolean own = name.startsWith("CensusNight.");
            due.yes("of the library: " + name, own || LIBRARY.contains(name));
            if (own) {
                callsOf.get(method).add(name);
            }
        }
        return super.visitMethodInvocation(tree, none);
    }

    @Override
    public Void visitNewClass(NewClassTree tree, Void none) {
        String type = trees.getElement(getCurrentPath()).getEnclosingElement().toString();
        due.yes("an own class: " + type, type.startsWith("CensusNight.") && tree.getClassBody() == null);
        madeOnce(tree);
        return super.visitNewClass(tree, none);
    }

    @Override
    public Void visitNewArray(NewArrayTree tree, Void none) {
        madeOnce(tree);
        return super.visitNewArray(tree, none);
    }

    private void madeOnce(Tree tree) {
        boolean once = method.isEmpty() || method.contains("<init>") || method.startsWith("CensusNight.door(");
        due.yes("made in a field, a constructor or by door(): line " + lineOf(tree), once);
    }

    // ---- rule 9: loops

    @Override
    public Void visitForLoop(ForLoopTree tree, Void none) {
        boolean counted = tree.getInitializer().size() == 1 && tree.getUpdate().size() == 1 && tree.getCondition() != null;
        boolean bounded = counted && tree.getUpdate().get(0).toString().contains("++")
                && tree.getCondition().toString().contains(((VariableTree) tree.getInitializer().get(0)).getName() + " <");
        due.yes("a counter against a bound: line " + lineOf(tree), bounded);
        return super.visitForLoop(tree, none);
    }

    @Override
    public Void visitWhileLoop(WhileLoopTree tree, Void none) {
        barred("a loop without a counter", tree);
        return super.visitWhileLoop(tree, none);
    }

    @Override
    public Void visitDoWhileLoop(DoWhileLoopTree tree, Void none) {
        barred("a loop without a counter", tree);
        return super.visitDoWhileLoop(tree, none);
    }

    // ---- rules 8 and 11: methods, recursion and depth

    @Override
    public Void visitMethod(MethodTree tree, Void none) {
        ExecutableElement element = (ExecutableElement) trees.getElement(getCurrentPath());
        String outer = method;
        method = nameOf(element);
        callsOf.put(method, new TreeSet<>());
        due.yes("answers " + element.getReturnType() + ": " + method, mayBe(element.getReturnType()));
        due.yes("parameters of " + method, tree.getParameters().size() <= MOST_PARAMETERS);
        long end = trees.getSourcePositions().getEndPosition(unit, tree);
        long lines = end < 0 ? 1 : unit.getLineMap().getLineNumber(end) - lineOf(tree) + 1;
        due.yes(method + " has " + lines + " lines", lines <= MOST_LINES);
        if (element.getModifiers().containsAll(Set.of(Modifier.PRIVATE, Modifier.STATIC))) {
            mayRecurse.add(method);
        }
        super.visitMethod(tree, none);
        method = outer;
        return null;
    }

    private static String nameOf(ExecutableElement element) {
        Element owner = element.getEnclosingElement();
        String name = owner + "." + element.getSimpleName();
        StringBuilder types = new StringBuilder();
        element.getParameters().forEach(given -> types.append(types.length() == 0 ? "" : ",").append(given.asType()));
        return owner.getKind() == ElementKind.CLASS ? name + "(" + types + ")" : name;
    }

    /** A method may call itself, if it is private and static; none comes back to itself by way of another. */
    private void recursion(String name) {
        if (callsOf.get(name).contains(name)) {
            due.yes("private and static: " + name, mayRecurse.contains(name));
        }
        Set<String> reached = new TreeSet<>();
        for (String next : callsOf.get(name)) {
            if (!next.equals(name)) {
                reach(next, reached);
            }
        }
        due.yes("comes back to itself by way of another: " + name, !reached.contains(name));
    }

    private void reach(String name, Set<String> reached) {
        if (reached.add(name)) {
            callsOf.getOrDefault(name, Set.of()).forEach(next -> reach(next, reached));
        }
    }

    private int depth(String name) {
        int deepest = 0;
        for (String next : callsOf.getOrDefault(name, Set.of())) {
            deepest = Math.max(deepest, next.equals(name) ? 0 : depth(next));
        }
        return 1 + deepest;
    }
}
