import com.sun.source.tree.ArrayTypeTree;
import com.sun.source.tree.AssertTree;
import com.sun.source.tree.ClassTree;
import com.sun.source.tree.CompilationUnitTree;
import com.sun.source.tree.DoWhileLoopTree;
import com.sun.source.tree.ForLoopTree;
import com.sun.source.tree.LambdaExpressionTree;
import com.sun.source.tree.MemberReferenceTree;
import com.sun.source.tree.MethodInvocationTree;
import com.sun.source.tree.MethodTree;
import com.sun.source.tree.NewArrayTree;
import com.sun.source.tree.NewClassTree;
import com.sun.source.tree.SynchronizedTree;
import com.sun.source.tree.ThrowTree;
import com.sun.source.tree.Tree;
import com.sun.source.tree.TryTree;
import com.sun.source.tree.VariableTree;
import com.sun.source.tree.WhileLoopTree;
import com.sun.source.util.JavacTask;
import com.sun.source.util.TreePathScanner;
import com.sun.source.util.Trees;
import java.nio.file.Path;
import java.util.HashSet;
import java.util.LinkedHashMap;
import java.util.List;
import java.util.Map;
import java.util.Set;
import javax.lang.model.element.Element;
import javax.lang.model.element.ElementKind;
import javax.lang.model.element.Modifier;
import javax.lang.model.element.TypeElement;
import javax.tools.JavaCompiler;
import javax.tools.StandardJavaFileManager;
import javax.tools.ToolProvider;

/** The rules of LANGUAGE.md that can be read off the source, by the compiler's own trees. */
public final class LanguageTest extends TreePathScanner<Void, Void> {
    private static final int LONGEST_METHOD = 60, MOST_PARAMETERS = 7, DEEPEST = 8;
    private static final Set<String> STATIC_TYPES = Set.of("int", "long", "boolean", "char", "String",
        "int[]", "long[]", "char[]", "byte[]");
    private static final Set<String> LIBRARY = Set.of("java.lang.Integer", "java.lang.Long", "java.lang.Math");

    private static final Due due = new Due();

    private final Trees trees;
    private final CompilationUnitTree unit;
    /** Each method with all of the file that it calls. */
    private final Map<Element, Set<Element>> calls = new LinkedHashMap<>();
    private Element method;

    private LanguageTest(Trees trees, CompilationUnitTree unit) {
        this.trees = trees;
        this.unit = unit;
    }

    public static void main(String[] args) throws Exception {
        Path source = Path.of(System.getProperty("project", "."), "src/main/java/ArrestOrder.java");
        JavaCompiler compiler = ToolProvider.getSystemJavaCompiler();
        StandardJavaFileManager files = compiler.getStandardFileManager(null, null, null);
        JavacTask task = (JavacTask) compiler.getTask(null, files, null, List.of("--release", "17"), null,
            files.getJavaFileObjects(source));
        CompilationUnitTree unit = task.parse().iterator().next();
        task.analyze();
        LanguageTest test = new LanguageTest(Trees.instance(task), unit);
        due.holds("there is no import", unit.getImports().isEmpty());
        due.holds("there is no package", unit.getPackage() == null);
        due.is("classes beside one another", 1, unit.getTypeDecls().size());
        test.scan(unit, null);
        test.callsAreFew();
        due.end();
    }

    private long lineOf(long position) {
        return unit.getLineMap().getLineNumber(position);
    }

    private String at(Tree tree) {
        return "line " + lineOf(trees.getSourcePositions().getStartPosition(unit, tree)) + ": ";
    }

    private Void forbidden(Tree tree) {
        due.holds(at(tree) + "no " + tree.getKind(), false);
        return null;
    }

    // ---- rules 2 and 6: what does not stand in the source at all

    @Override public Void visitThrow(ThrowTree tree, Void none) {
        return forbidden(tree);
    }

    @Override public Void visitTry(TryTree tree, Void none) {
        return forbidden(tree);
    }

    @Override public Void visitSynchronized(SynchronizedTree tree, Void none) {
        return forbidden(tree);
    }

    @Override public Void visitAssert(AssertTree tree, Void none) {
        return forbidden(tree);
    }

    @Override public Void visitLambdaExpression(LambdaExpressionTree tree, Void none) {
        return forbidden(tree);
    }

    @Override public Void visitMemberReference(MemberReferenceTree tree, Void none) {
        return forbidden(tree);
    }

    // ---- rules 1, 2 and 5: classes and static fields

    @Override public Void visitClass(ClassTree tree, Void none) {
        Set<Modifier> modifiers = tree.getModifiers().getFlags();
        Element outer = trees.getElement(getCurrentPath()).getEnclosingElement();
        boolean isFace = outer.getKind() == ElementKind.PACKAGE;
        due.holds(at(tree) + "a class inside is static and not public", isFace
            || modifiers.contains(Modifier.STATIC) && !modifiers.contains(Modifier.PUBLIC)
            && !modifiers.contains(Modifier.PROTECTED) && outer.getKind() == ElementKind.CLASS);
        return super.visitClass(tree, none);
    }

    @Override public Void visitVariable(VariableTree tree, Void none) {
        if (tree.getModifiers().getFlags().contains(Modifier.STATIC)) {
            due.holds(at(tree) + "static is final", tree.getModifiers().getFlags().contains(Modifier.FINAL));
            due.holds(at(tree) + "static is a constant", STATIC_TYPES.contains(tree.getType().toString()));
        }
        return super.visitVariable(tree, none);
    }

    @Override public Void visitArrayType(ArrayTypeTree tree, Void none) {
        due.holds(at(tree) + "an array has one dimension", !(tree.getType() instanceof ArrayTypeTree));
        return super.visitArrayType(tree, none);
    }

    // ---- rule 12: what a run makes; here it is made in constructors alone

    @Override public Void visitNewClass(NewClassTree tree, Void none) {
        due.holds(at(tree) + "no anonymous class", tree.getClassBody() == null);
        due.holds(at(tree) + "a class of our own is made", isOwn(trees.getElement(getCurrentPath())));
        due.holds(at(tree) + "it is made in a constructor", isInConstructor());
        return super.visitNewClass(tree, none);
    }

    @Override public Void visitNewArray(NewArrayTree tree, Void none) {
        due.holds(at(tree) + "it is made in a constructor", isInConstructor());
        return super.visitNewArray(tree, none);
    }

    private boolean isInConstructor() {
        return method != null && method.getKind() == ElementKind.CONSTRUCTOR;
    }

    // ---- rules 4, 8 and 11: methods and what they call

    @Override public Void visitMethod(MethodTree tree, Void none) {
        long start = trees.getSourcePositions().getStartPosition(unit, tree);
        long end = trees.getSourcePositions().getEndPosition(unit, tree);
        boolean isWritten = end > start;
        due.holds(at(tree) + tree.getName() + " is short",
            !isWritten || lineOf(end) - lineOf(start) < LONGEST_METHOD);
        due.holds(at(tree) + tree.getName() + " has few parameters",
            tree.getParameters().size() <= MOST_PARAMETERS);
        method = trees.getElement(getCurrentPath());
        calls.put(method, new HashSet<>());
        super.visitMethod(tree, none);
        method = null;
        return null;
    }

    @Override public Void visitMethodInvocation(MethodInvocationTree tree, Void none) {
        Element called = trees.getElement(getCurrentPath());
        if (isOwn(called)) {
            calls.get(method).add(called);
        } else if (called.getKind() != ElementKind.CONSTRUCTOR) {
            String from = ((TypeElement) called.getEnclosingElement()).getQualifiedName().toString();
            due.holds(at(tree) + from + "." + called + " is a library's function that is listed",
                LIBRARY.contains(from) && called.getModifiers().contains(Modifier.STATIC)
                && !called.getSimpleName().toString().endsWith("Exact"));
        }
        return super.visitMethodInvocation(tree, none);
    }

    private boolean isOwn(Element element) {
        Element outer = element.getEnclosingElement();
        while (outer.getEnclosingElement().getKind() != ElementKind.PACKAGE) {
            outer = outer.getEnclosingElement();
        }
        return outer.getSimpleName().contentEquals("ArrestOrder");
    }

    private void callsAreFew() {
        due.holds("the methods are found", calls.size() > 29);
        for (Element start : calls.keySet()) {
            due.holds(start + " goes at most " + DEEPEST + " deep, and calls itself on no way", depth(start, 1) <= DEEPEST);
        }
    }

    /** Recursion is seen by its depth, too: it has no end. */
    private int depth(Element from, int open) {
        int deepest = open;
        for (Element called : calls.getOrDefault(from, Set.of())) {
            if (deepest <= DEEPEST) {
                deepest = Math.max(deepest, depth(called, open + 1));
            }
        }
        return deepest;
    }

    // ---- rule 9: loops

    @Override public Void visitForLoop(ForLoopTree tree, Void none) {
        due.holds(at(tree) + "a loop has a counter and a bound", tree.getCondition() != null
            && tree.getInitializer().size() == 1 && tree.getUpdate().size() == 1);
        return super.visitForLoop(tree, none);
    }

    @Override public Void visitWhileLoop(WhileLoopTree tree, Void none) {
        return forbidden(tree);
    }

    @Override public Void visitDoWhileLoop(DoWhileLoopTree tree, Void none) {
        return forbidden(tree);
    }
}
