import com.sun.source.tree.BinaryTree;
import com.sun.source.tree.CompilationUnitTree;
import com.sun.source.tree.LambdaExpressionTree;
import com.sun.source.tree.MemberReferenceTree;
import com.sun.source.tree.MethodInvocationTree;
import com.sun.source.tree.MethodTree;
import com.sun.source.tree.NewClassTree;
import com.sun.source.tree.ThrowTree;
import com.sun.source.tree.Tree;
import com.sun.source.tree.VariableTree;
import com.sun.source.util.JavacTask;
import com.sun.source.util.TreePath;
import com.sun.source.util.TreePathScanner;
import com.sun.source.util.Trees;
import java.io.IOException;
import java.nio.file.Path;
import java.util.ArrayDeque;
import java.util.Deque;
import java.util.HashMap;
import java.util.HashSet;
import java.util.List;
import java.util.Map;
import java.util.Set;
import javax.lang.model.element.Element;
import javax.lang.model.element.ElementKind;
import javax.lang.model.type.ArrayType;
import javax.lang.model.type.TypeKind;
import javax.lang.model.type.TypeMirror;
import javax.tools.JavaCompiler;
import javax.tools.StandardJavaFileManager;
import javax.tools.ToolProvider;

/** Those rules of LANGUAGE.md that need the compiler's view: what is called, made and thrown. */
public final class SourceTest extends TreePathScanner<Void, Void> {
    private static final Path SOURCE = Path.of("src/main/java/AmendsLedger.java");
    private static final String PROGRAM = "AmendsLedger";
    private static final int DEEPEST = 8;
    /** Rule 4; an own class's constructor begins with that of Object. */
    private static final Map<String, Set<String>> LIBRARY = Map.of(
            "java.lang.Object", Set.of("<init>"),
            "java.lang.System", Set.of("arraycopy"),
            "java.lang.Math", Set.of("abs", "floorDiv", "floorMod", "max", "min"),
            "java.lang.Integer", Set.of("bitCount", "compare", "max", "min"),
            "java.lang.Long", Set.of("bitCount", "compare", "max", "min"),
            "java.util.Arrays", Set.of("copyOf", "copyOfRange", "fill"),
            "java.lang.String", Set.of("charAt", "equals", "indexOf", "isEmpty", "length",
                    "substring", "toCharArray"),
            "java.lang.StringBuilder", Set.of("append", "charAt", "deleteCharAt", "length",
                    "reverse", "setCharAt", "setLength", "toString"));
    private static final Set<String> TYPES = Set.of("int", "long", "short", "byte", "char",
            "boolean", "double", "float", "java.lang.String", "java.lang.StringBuilder");
    private static final Set<String> THROWN = Set.of("java.lang.IllegalStateException",
            "java.lang.IllegalArgumentException", "java.lang.IndexOutOfBoundsException",
            "java.lang.ArithmeticException", "java.lang.UnsupportedOperationException",
            "java.util.NoSuchElementException", "java.lang.RuntimeException");

    private static final Checks CHECKS = new Checks("SourceTest");

    private final Trees trees;
    private final Map<Element, Set<Element>> calls = new HashMap<>();
    private final Map<Element, Integer> depths = new HashMap<>();
    private final Deque<Element> open = new ArrayDeque<>();
    private Element method;

    private SourceTest(Trees trees) {
        this.trees = trees;
    }

    public static void main(String[] args) throws IOException {
        JavaCompiler compiler = ToolProvider.getSystemJavaCompiler();
        try (StandardJavaFileManager files = compiler.getStandardFileManager(null, null, null)) {
            JavacTask task = (JavacTask) compiler.getTask(null, files, null,
                    List.of("-proc:none"), null, files.getJavaFileObjects(SOURCE));
            Iterable<? extends CompilationUnitTree> units = task.parse();
            task.analyze();
            SourceTest test = new SourceTest(Trees.instance(task));
            test.scan(units, null);
            test.rule11Depths();
        }
        CHECKS.end();
    }

    private void allowed(String rule, boolean holds) {
        CHECKS.due(rule + ", in " + method, holds ? 1 : 0, 1);
    }

    private Element told(Tree tree) {
        return trees.getElement(new TreePath(getCurrentPath(), tree));
    }

    private static boolean isOwn(String type) {
        return type.equals(PROGRAM) || type.startsWith(PROGRAM + ".");
    }

    // ---- rules 8 and 11: how deep calls go

    /** No recursion is used, so that every chain of calls has an end. */
    private void rule11Depths() {
        CHECKS.due("methods were found", calls.isEmpty() ? 1 : 0, 0);
        for (Element each : calls.keySet()) {
            CHECKS.due("rule 11: calls below " + each, Math.max(DEEPEST, depthOf(each)), DEEPEST);
        }
    }

    private int depthOf(Element of) {
        Integer known = depths.get(of);
        if (known != null) {
            return known;
        }
        CHECKS.due("rule 8: " + of + " calls itself", open.contains(of) ? 1 : 0, 0);
        if (open.contains(of)) {
            return 0;
        }
        open.push(of);
        int deepest = 0;
        for (Element each : calls.getOrDefault(of, Set.of())) {
            deepest = Math.max(deepest, depthOf(each));
        }
        open.pop();
        depths.put(of, 1 + deepest);
        return 1 + deepest;
    }

    // ---- what the source holds

    @Override
    public Void visitMethod(MethodTree tree, Void none) {
        Element outer = method;
        method = trees.getElement(getCurrentPath());
        calls.putIfAbsent(method, new HashSet<>());
        super.visitMethod(tree, none);
        method = outer;
        return null;
    }

    @Override
    public Void visitMethodInvocation(MethodInvocationTree tree, Void none) {
        Element called = told(tree.getMethodSelect());
        String owner = called.getEnclosingElement().toString();
        if (isOwn(owner)) {
            calls.get(method).add(called);
        } else {
            String name = called.getSimpleName().toString();
            allowed("rule 4: " + owner + "." + name,
                    LIBRARY.getOrDefault(owner, Set.of()).contains(name));
        }
        return super.visitMethodInvocation(tree, none);
    }

    @Override
    public Void visitNewClass(NewClassTree tree, Void none) {
        String made = told(tree.getIdentifier()).toString();
        boolean thrown = getCurrentPath().getParentPath().getLeaf() instanceof ThrowTree;
        allowed("rule 4 or 6: new " + made, isOwn(made) || thrown && THROWN.contains(made));
        return super.visitNewClass(tree, none);
    }

    @Override
    public Void visitThrow(ThrowTree tree, Void none) {
        allowed("rule 6: throw new", tree.getExpression() instanceof NewClassTree);
        allowed("rule 6: no throw in a constructor", method.getKind() == ElementKind.METHOD);
        return super.visitThrow(tree, none);
    }

    @Override
    public Void visitVariable(VariableTree tree, Void none) {
        TypeMirror type = trees.getTypeMirror(getCurrentPath());
        TypeMirror part = type.getKind() == TypeKind.ARRAY
                ? ((ArrayType) type).getComponentType() : type;
        allowed("rule 3: " + tree, TYPES.contains(part.toString()) || isOwn(part.toString()));
        return super.visitVariable(tree, none);
    }

    @Override
    public Void visitBinary(BinaryTree tree, Void none) {
        TypeMirror type = trees.getTypeMirror(getCurrentPath());
        allowed("rule 10: " + tree + " joins no texts", type.getKind().isPrimitive());
        return super.visitBinary(tree, none);
    }

    @Override
    public Void visitLambdaExpression(LambdaExpressionTree tree, Void none) {
        allowed("rule 2: no lambda", false);
        return super.visitLambdaExpression(tree, none);
    }

    @Override
    public Void visitMemberReference(MemberReferenceTree tree, Void none) {
        allowed("rule 2: no method reference", false);
        return super.visitMemberReference(tree, none);
    }
}
