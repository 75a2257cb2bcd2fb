import com.sun.source.tree.AssertTree;
import com.sun.source.tree.BinaryTree;
import com.sun.source.tree.BlockTree;
import com.sun.source.tree.ClassTree;
import com.sun.source.tree.CompilationUnitTree;
import com.sun.source.tree.EnhancedForLoopTree;
import com.sun.source.tree.LambdaExpressionTree;
import com.sun.source.tree.MemberReferenceTree;
import com.sun.source.tree.MethodInvocationTree;
import com.sun.source.tree.MethodTree;
import com.sun.source.tree.NewArrayTree;
import com.sun.source.tree.NewClassTree;
import com.sun.source.tree.SynchronizedTree;
import com.sun.source.tree.ThrowTree;
import com.sun.source.tree.Tree;
import com.sun.source.tree.TryTree;
import com.sun.source.tree.VariableTree;
import com.sun.source.util.JavacTask;
import com.sun.source.util.TreePath;
import com.sun.source.util.TreePathScanner;
import com.sun.source.util.Trees;
import java.io.IOException;
import java.nio.file.Files;
import java.nio.file.Path;
import java.util.Map;
import java.util.Set;
import java.util.TreeMap;
import java.util.TreeSet;
import javax.lang.model.element.Element;
import javax.lang.model.element.ElementKind;
import javax.lang.model.element.Modifier;
import javax.lang.model.type.TypeKind;
import javax.lang.model.type.TypeMirror;
import javax.tools.JavaCompiler;
import javax.tools.StandardJavaFileManager;
import javax.tools.ToolProvider;

/** Those rules of LANGUAGE.md that can be read off the source; the class uses less than they leave. */
final class LanguageTest extends TreePathScanner<Void, Void> {
    private static final Check CHECK = new Check("LanguageTest");
    private static final Path SOURCE = Path.of("src/main/java/BootsAtDawn.java");
    private static final Set<String> LIBRARY = Set.of(
        "String.length", "String.charAt", "Integer.bitCount", "Math.max", "Math.min", "Math.abs", "Arrays.fill");

    private final CompilationUnitTree unit;
    private final Trees trees;
    private final Map<Element, Set<Element>> calls = new TreeMap<>((a, b) -> named(a).compareTo(named(b)));
    private Element caller;
    private int classes;

    private LanguageTest(CompilationUnitTree unit, Trees trees) {
        this.unit = unit;
        this.trees = trees;
    }

    public static void main(String[] args) throws IOException {
        JavaCompiler compiler = ToolProvider.getSystemJavaCompiler();
        try (StandardJavaFileManager files = compiler.getStandardFileManager(null, null, null)) {
            JavacTask task = (JavacTask) compiler.getTask(null, files, null, null, null, files.getJavaFileObjects(SOURCE));
            for (CompilationUnitTree unit : task.parse()) {
                task.analyze();
                new LanguageTest(unit, Trees.instance(task)).run();
            }
        }
        CHECK.holds("signs are ASCII", Files.readString(SOURCE).chars().allMatch(sign -> sign < 128));
        CHECK.end();
    }

    private void run() {
        CHECK.holds("no package line", unit.getPackageName() == null);
        CHECK.due("classes outside others", unit.getTypeDecls().size(), 1);
        scan(unit, null);
        CHECK.holds("12 classes at most: " + classes, classes <= 12);
        for (Element method : calls.keySet()) {
            int depth = depthOf(method, new TreeSet<>());
            CHECK.holds("8 calls deep at most: " + named(method) + " " + depth, depth <= 8);
        }
    }

    private static String named(Element element) {
        return element.getEnclosingElement().getSimpleName() + "." + element;
    }

    private int depthOf(Element method, Set<String> above) {
        if (!above.add(named(method))) {
            CHECK.holds("no recursion: " + named(method), false);
            return 1000;
        }
        int deepest = 0;
        for (Element callee : calls.getOrDefault(method, Set.of())) {
            deepest = Math.max(deepest, depthOf(callee, above));
        }
        above.remove(named(method));
        return 1 + deepest;
    }

    private Element here() {
        return trees.getElement(getCurrentPath());
    }

    private void never(String what, Tree tree) {
        CHECK.holds("no " + what + ", line " + lineOf(trees.getSourcePositions().getStartPosition(unit, tree)), false);
    }

    private long lineOf(long position) {
        return unit.getLineMap().getLineNumber(position);
    }

    @Override
    public Void visitClass(ClassTree tree, Void unused) {
        classes++;
        int fields = 0;
        for (Tree member : tree.getMembers()) {
            if (member instanceof BlockTree) {
                never("initialiser block", member);
            }
            boolean ofObjects = member instanceof VariableTree field && !field.getModifiers().getFlags().contains(Modifier.STATIC);
            fields += ofObjects ? 1 : 0;
        }
        CHECK.holds("20 fields at most: " + tree.getSimpleName() + " " + fields, fields <= 20);
        return super.visitClass(tree, unused);
    }

    @Override
    public Void visitMethod(MethodTree tree, Void unused) {
        String name = tree.getName().toString();
        CHECK.holds("7 parameters at most: " + name, tree.getParameters().size() <= 7);
        if (tree.getBody() != null) {
            long first = lineOf(trees.getSourcePositions().getStartPosition(unit, tree.getBody()));
            long last = lineOf(trees.getSourcePositions().getEndPosition(unit, tree.getBody()));
            CHECK.holds("60 lines at most: " + name, last - first <= 60);
        }
        caller = here();
        calls.putIfAbsent(caller, new TreeSet<>((a, b) -> named(a).compareTo(named(b))));
        super.visitMethod(tree, unused);
        caller = null;
        return null;
    }

    @Override
    public Void visitVariable(VariableTree tree, Void unused) {
        Element variable = here();
        if (variable.getKind() == ElementKind.FIELD && variable.getModifiers().contains(Modifier.STATIC)) {
            TypeMirror type = variable.asType();
            boolean plain = type.getKind().isPrimitive() || type.toString().equals("java.lang.String");
            CHECK.holds("static " + variable + " is a constant", plain && variable.getModifiers().contains(Modifier.FINAL));
        }
        TypeKind kind = variable.asType().getKind();
        CHECK.holds("no fractions: " + variable, kind != TypeKind.DOUBLE && kind != TypeKind.FLOAT);
        return super.visitVariable(tree, unused);
    }

    @Override
    public Void visitMethodInvocation(MethodInvocationTree tree, Void unused) {
        Element callee = trees.getElement(new TreePath(getCurrentPath(), tree.getMethodSelect()));
        Element owner = callee.getEnclosingElement();
        String name = owner.getSimpleName() + "." + callee.getSimpleName();
        if (calls.containsKey(callee) || owner.toString().startsWith("BootsAtDawn")) {
            if (caller != null) {
                calls.get(caller).add(callee);
            }
        } else {
            CHECK.holds("library: " + name, LIBRARY.contains(name) || name.equals("Object.<init>"));
        }
        return super.visitMethodInvocation(tree, unused);
    }

    private void noObjectsInCalls(Tree tree) {
        if (caller != null && caller.getKind() == ElementKind.METHOD) {
            never("object made in a call", tree);
        }
    }

    @Override
    public Void visitNewClass(NewClassTree tree, Void unused) {
        noObjectsInCalls(tree);
        return super.visitNewClass(tree, unused);
    }

    @Override
    public Void visitNewArray(NewArrayTree tree, Void unused) {
        noObjectsInCalls(tree);
        return super.visitNewArray(tree, unused);
    }

    @Override
    public Void visitBinary(BinaryTree tree, Void unused) {
        boolean joins = tree.getKind() == Tree.Kind.PLUS && !trees.getTypeMirror(getCurrentPath()).getKind().isPrimitive();
        if (joins) {
            never("texts joined by +", tree);
        }
        return super.visitBinary(tree, unused);
    }

    @Override
    public Void visitThrow(ThrowTree tree, Void unused) {
        never("throw (the document names no exception)", tree);
        return super.visitThrow(tree, unused);
    }

    @Override
    public Void visitTry(TryTree tree, Void unused) {
        never("try", tree);
        return super.visitTry(tree, unused);
    }

    @Override
    public Void visitLambdaExpression(LambdaExpressionTree tree, Void unused) {
        never("lambda", tree);
        return super.visitLambdaExpression(tree, unused);
    }

    @Override
    public Void visitMemberReference(MemberReferenceTree tree, Void unused) {
        never("method reference", tree);
        return super.visitMemberReference(tree, unused);
    }

    @Override
    public Void visitSynchronized(SynchronizedTree tree, Void unused) {
        never("synchronized", tree);
        return super.visitSynchronized(tree, unused);
    }

    @Override
    public Void visitAssert(AssertTree tree, Void unused) {
        never("assert", tree);
        return super.visitAssert(tree, unused);
    }

    @Override
    public Void visitEnhancedForLoop(EnhancedForLoopTree tree, Void unused) {
        boolean overArray = trees.getTypeMirror(new TreePath(getCurrentPath(), tree.getExpression())).getKind() == TypeKind.ARRAY;
        CHECK.holds("lists are walked by index", overArray);
        return super.visitEnhancedForLoop(tree, unused);
    }
}
