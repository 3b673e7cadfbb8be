import com.sun.source.tree.AssertTree;
import com.sun.source.tree.BlockTree;
import com.sun.source.tree.ClassTree;
import com.sun.source.tree.CompilationUnitTree;
import com.sun.source.tree.ImportTree;
import com.sun.source.tree.LambdaExpressionTree;
import com.sun.source.tree.MemberReferenceTree;
import com.sun.source.tree.MethodInvocationTree;
import com.sun.source.tree.MethodTree;
import com.sun.source.tree.NewArrayTree;
import com.sun.source.tree.NewClassTree;
import com.sun.source.tree.SynchronizedTree;
import com.sun.source.tree.ThrowTree;
import com.sun.source.tree.Tree;
import com.sun.source.tree.TryTree;
import com.sun.source.util.JavacTask;
import com.sun.source.util.TreePathScanner;
import com.sun.source.util.Trees;
import java.io.IOException;
import java.nio.file.Path;
import java.util.ArrayList;
import java.util.HashMap;
import java.util.List;
import java.util.Map;
import javax.lang.model.element.Element;
import javax.lang.model.element.ElementKind;
import javax.lang.model.element.Modifier;
import javax.tools.JavaCompiler;
import javax.tools.StandardJavaFileManager;
import javax.tools.ToolProvider;

/** The rules of LANGUAGE.md, as far as they can be seen in the program's lines; the numbers are theirs. */
final class LanguageTest extends TreePathScanner<Void, Void> {
    private static final int MOST_CLASSES = 12;
    private static final int MOST_FIELDS = 20;
    private static final int MOST_PARAMETERS = 7;
    private static final int MOST_LINES = 60;
    private static final int MOST_CALLS_DEEP = 8;
    private static final List<String> LIBRARY = List.of("java.util.Arrays.fill", "java.util.Arrays.copyOf",
        "java.util.Arrays.copyOfRange", "java.lang.System.arraycopy", "java.lang.Math.min", "java.lang.Math.max");

    private final Trees trees;
    private final CompilationUnitTree unit;
    private final Map<Element, List<Element>> calls = new HashMap<>();
    private Element method;
    private int classes = 0;

    private LanguageTest(Trees trees, CompilationUnitTree unit) {
        this.trees = trees;
        this.unit = unit;
    }

    public static void main(String[] args) throws IOException {
        Path program = Path.of(System.getProperty("project"), "src", "main", "java", "GrinCoder.java");
        JavaCompiler compiler = ToolProvider.getSystemJavaCompiler();
        try (StandardJavaFileManager files = compiler.getStandardFileManager(null, null, null)) {
            JavacTask task = (JavacTask) compiler.getTask(null, files, null, null, null,
                files.getJavaFileObjects(program));
            CompilationUnitTree unit = task.parse().iterator().next();
            task.analyze();
            new LanguageTest(Trees.instance(task), unit).look();
        }
        Probe.finish();
    }

    private void look() {
        Probe.due("a package line", unit.getPackageName() == null ? 0 : 1, 0);
        Probe.due("outermost classes", unit.getTypeDecls().size(), 1);
        scan(unit, null);
        Probe.due("too many classes, rule 11: " + classes, classes > MOST_CLASSES ? 1 : 0, 0);
        for (Element each : calls.keySet()) {
            int deep = depth(each, new ArrayList<>());
            Probe.due("calls too deep, rule 11: " + each + " with " + deep, deep > MOST_CALLS_DEEP ? 1 : 0, 0);
        }
    }

    /** How many calls stand open at once in what a method calls, with its own. */
    private int depth(Element from, List<Element> open) {
        if (open.contains(from)) {
            refuse("recursion, rule 8", from.toString());
            return 0;
        }
        open.add(from);
        int deepest = 0;
        for (Element called : calls.getOrDefault(from, List.of())) {
            deepest = Math.max(deepest, depth(called, open));
        }
        open.remove(from);
        return 1 + deepest;
    }

    private void refuse(String rule, String what) {
        Probe.complain(rule + ": " + what);
    }

    private long lineOf(long position) {
        return unit.getLineMap().getLineNumber(position);
    }

    private long linesOf(Tree tree) {
        long start = trees.getSourcePositions().getStartPosition(unit, tree);
        long end = trees.getSourcePositions().getEndPosition(unit, tree);
        return lineOf(end) - lineOf(start) + 1;
    }

    private Element here() {
        return trees.getElement(getCurrentPath());
    }

    @Override
    public Void visitImport(ImportTree tree, Void none) {
        Probe.due("an import, rule 4", tree.getQualifiedIdentifier().toString(), "java.util.Arrays");
        return null;
    }

    @Override
    public Void visitClass(ClassTree tree, Void none) {
        classes++;
        Element own = here();
        boolean outermost = own.getSimpleName().contentEquals("GrinCoder");
        boolean fine = outermost || own.getModifiers().contains(Modifier.STATIC);
        Probe.due(own + " is not static, rule 1", fine ? 1 : 0, 1);
        int fields = 0;
        for (Element member : own.getEnclosedElements()) {
            if (member.getKind() == ElementKind.FIELD) {
                boolean ofClass = member.getModifiers().contains(Modifier.STATIC);
                boolean last = member.getModifiers().contains(Modifier.FINAL);
                Probe.due(member + " is static, but not final, rule 5", ofClass && !last ? 1 : 0, 0);
                fields += ofClass ? 0 : 1;
            }
        }
        Probe.due("too many fields, rule 11: " + own + " with " + fields, fields > MOST_FIELDS ? 1 : 0, 0);
        return super.visitClass(tree, none);
    }

    @Override
    public Void visitMethod(MethodTree tree, Void none) {
        method = here();
        calls.computeIfAbsent(method, key -> new ArrayList<>());
        int parameters = tree.getParameters().size();
        Probe.due("too many parameters, rule 11: " + method, parameters > MOST_PARAMETERS ? 1 : 0, 0);
        Probe.due("too long, rule 11: " + method, linesOf(tree) > MOST_LINES ? 1 : 0, 0);
        super.visitMethod(tree, none);
        method = null;
        return null;
    }

    @Override
    public Void visitMethodInvocation(MethodInvocationTree tree, Void none) {
        Element called = here();
        String home = called.getEnclosingElement().toString();
        boolean own = home.equals("GrinCoder") || home.startsWith("GrinCoder.");
        String name = home + "." + called.getSimpleName();
        if (own && method != null) {
            calls.get(method).add(called);
        } else if (!LIBRARY.contains(name) && !called.getSimpleName().contentEquals("<init>")) {
            refuse("not in the library, rule 4", name);
        }
        return super.visitMethodInvocation(tree, none);
    }

    /** The room of a run is for constructors and what they make: no call makes more. */
    private void isMadeByConstructor(Tree tree) {
        boolean fine = method == null || method.getKind() == ElementKind.CONSTRUCTOR;
        Probe.due("made by a call, rule 12: " + tree, fine ? 1 : 0, 1);
    }

    @Override
    public Void visitNewClass(NewClassTree tree, Void none) {
        isMadeByConstructor(tree);
        return super.visitNewClass(tree, none);
    }

    @Override
    public Void visitNewArray(NewArrayTree tree, Void none) {
        isMadeByConstructor(tree);
        return super.visitNewArray(tree, none);
    }

    @Override
    public Void visitBlock(BlockTree tree, Void none) {
        Probe.due("static initialisers, rule 5", tree.isStatic() ? 1 : 0, 0);
        return super.visitBlock(tree, none);
    }

    @Override
    public Void visitLambdaExpression(LambdaExpressionTree tree, Void none) {
        refuse("lambda, rule 2", tree.toString());
        return null;
    }

    @Override
    public Void visitMemberReference(MemberReferenceTree tree, Void none) {
        refuse("method reference, rule 2", tree.toString());
        return null;
    }

    // The document names no exception, so none is thrown, and none needs to be caught.

    @Override
    public Void visitThrow(ThrowTree tree, Void none) {
        refuse("throw, rule 6", tree.toString());
        return null;
    }

    @Override
    public Void visitTry(TryTree tree, Void none) {
        refuse("try, rule 6", tree.toString());
        return null;
    }

    @Override
    public Void visitSynchronized(SynchronizedTree tree, Void none) {
        refuse("synchronized, rule 6", tree.toString());
        return null;
    }

    @Override
    public Void visitAssert(AssertTree tree, Void none) {
        refuse("assert, rule 6", tree.toString());
        return null;
    }
}
