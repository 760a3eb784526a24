import com.sun.source.tree.AssertTree;
import com.sun.source.tree.BlockTree;
import com.sun.source.tree.ClassTree;
import com.sun.source.tree.CompilationUnitTree;
import com.sun.source.tree.ForLoopTree;
import com.sun.source.tree.LambdaExpressionTree;
import com.sun.source.tree.LiteralTree;
import com.sun.source.tree.MemberReferenceTree;
import com.sun.source.tree.MethodInvocationTree;
import com.sun.source.tree.MethodTree;
import com.sun.source.tree.NewArrayTree;
import com.sun.source.tree.NewClassTree;
import com.sun.source.tree.SynchronizedTree;
import com.sun.source.tree.ThrowTree;
import com.sun.source.tree.Tree;
import com.sun.source.tree.TryTree;
import com.sun.source.tree.VariableTree;
import com.sun.source.tree.WhileLoopTree;
import com.sun.source.util.JavacTask;
import com.sun.source.util.TreePath;
import com.sun.source.util.TreePathScanner;
import com.sun.source.util.Trees;
import java.io.File;
import java.io.IOException;
import java.util.HashMap;
import java.util.HashSet;
import java.util.List;
import java.util.Map;
import java.util.Set;
import javax.lang.model.element.Element;
import javax.lang.model.element.ElementKind;
import javax.lang.model.element.Modifier;
import javax.lang.model.element.TypeElement;
import javax.lang.model.type.ArrayType;
import javax.lang.model.type.DeclaredType;
import javax.lang.model.type.TypeMirror;
import javax.tools.JavaCompiler;
import javax.tools.StandardJavaFileManager;
import javax.tools.ToolProvider;

/** The rules of LANGUAGE.md that can be told from the source; the others are kept by reading. */
public final class LanguageTest extends TreePathScanner<Void, Void> {
    private static final String SOURCE = "src/main/java/EquationDesk.java";
    private static final Set<String> FACE = Set.of(
            "size", "put", "solve", "unknown", "determinant", "compare", "bits", "part");
    private static final Set<String> EXCEPTIONS = Set.of(
            "IllegalStateException", "IllegalArgumentException", "IndexOutOfBoundsException");
    private static final Set<String> LIBRARY = Set.of("Integer", "Long", "Math");
    private static final int MOST_CLASSES = 12;
    private static final int MOST_FIELDS = 20;
    private static final int MOST_PARAMETERS = 7;
    private static final int MOST_LINES = 60;
    private static final int MOST_DEPTH = 8;

    private final CompilationUnitTree unit;
    private final Trees trees;
    private final Map<Element, Set<Element>> calls = new HashMap<>();
    private int classes = 0;

    private LanguageTest(CompilationUnitTree unit, Trees trees) {
        this.unit = unit;
        this.trees = trees;
    }

    public static void main(String[] args) throws IOException {
        JavaCompiler compiler = ToolProvider.getSystemJavaCompiler();
        try (StandardJavaFileManager files = compiler.getStandardFileManager(null, null, null)) {
            JavacTask task = (JavacTask) compiler.getTask(null, files, null, List.of("-proc:none"), null,
                    files.getJavaFileObjects(new File(SOURCE)));
            CompilationUnitTree unit = task.parse().iterator().next();
            task.analyze();
            new LanguageTest(unit, Trees.instance(task)).dueRules();
        }
        Checks.end("LanguageTest");
    }

    private void dueRules() {
        Checks.due("no package line", unit.getPackageName() == null, true);
        Checks.due("imports", unit.getImports().size(), 0);
        Checks.due("classes of the file", unit.getTypeDecls().size(), 1);
        scan(unit, null);
        Checks.due("rule 11, " + classes + " classes", classes <= MOST_CLASSES, true);
        for (Element method : calls.keySet()) {
            int depth = depth(method, new HashSet<>());
            Checks.due("rule 11, the depth of " + method + ", " + depth, depth <= MOST_DEPTH, true);
        }
    }

    /** Calls that stand open at once; the library's own count as one. */
    private int depth(Element method, Set<Element> open) {
        if (!open.add(method)) {
            Checks.due("rule 8, recursion through " + method, true, false);
            return 0;
        }
        int deepest = 0;
        for (Element called : calls.getOrDefault(method, Set.of())) {
            deepest = Math.max(deepest, depth(called, open));
        }
        open.remove(method);
        return deepest + 1;
    }

    private void due(String rule, Tree at, boolean kept) {
        if (!kept) {
            long start = trees.getSourcePositions().getStartPosition(unit, at);
            Checks.due(rule + ", line " + unit.getLineMap().getLineNumber(start), "broken", "kept");
        }
    }

    private Element element() {
        return trees.getElement(getCurrentPath());
    }

    private Element owner() {
        for (TreePath path = getCurrentPath(); path != null; path = path.getParentPath()) {
            if (path.getLeaf() instanceof MethodTree) {
                return trees.getElement(path);
            }
        }
        return null;
    }

    @Override
    public Void visitClass(ClassTree tree, Void none) {
        classes++;
        Set<Modifier> flags = tree.getModifiers().getFlags();
        Element place = element().getEnclosingElement();
        boolean nested = place.getKind() == ElementKind.CLASS;
        due("rule 1: the class is public and final, those inside are private and static", tree,
                flags.equals(nested ? Set.of(Modifier.PRIVATE, Modifier.STATIC, Modifier.FINAL)
                        : Set.of(Modifier.PUBLIC, Modifier.FINAL)));
        due("rule 2: no class inside a method", tree, nested || place.getKind() == ElementKind.PACKAGE);
        due("no class has another above it", tree, tree.getExtendsClause() == null);
        int fields = 0;
        for (Tree member : tree.getMembers()) {
            due("rule 5: no initialiser block", member, !(member instanceof BlockTree));
            boolean counts = member instanceof VariableTree field
                    && !field.getModifiers().getFlags().contains(Modifier.STATIC);
            fields += counts ? 1 : 0;
        }
        due("rule 11: fields", tree, fields <= MOST_FIELDS);
        return super.visitClass(tree, none);
    }

    @Override
    public Void visitMethod(MethodTree tree, Void none) {
        boolean face = element().getEnclosingElement().toString().equals("EquationDesk")
                && element().getModifiers().contains(Modifier.PUBLIC);
        due("rule 1: no other method bears a name of the face", tree, face || !FACE.contains(tree.getName().toString()));
        due("rule 11: parameters", tree, tree.getParameters().size() <= MOST_PARAMETERS);
        due("rule 11: lines", tree, lines(tree) <= MOST_LINES);
        calls.computeIfAbsent(element(), method -> new HashSet<>());
        return super.visitMethod(tree, none);
    }

    private long lines(Tree tree) {
        long start = trees.getSourcePositions().getStartPosition(unit, tree);
        long end = trees.getSourcePositions().getEndPosition(unit, tree);
        return unit.getLineMap().getLineNumber(end) - unit.getLineMap().getLineNumber(start) + 1;
    }

    @Override
    public Void visitVariable(VariableTree tree, Void none) {
        Element variable = element();
        due("rule 3: the type of " + tree.getName(), tree, isPlain(variable.asType()));
        if (variable.getModifiers().contains(Modifier.STATIC)) {
            due("rule 5: a static field is a final constant", tree,
                    variable.getModifiers().contains(Modifier.FINAL) && variable.asType().getKind().isPrimitive());
        }
        return super.visitVariable(tree, none);
    }

    /** A primitive type, a class of the file, or an array of one dimension of these. */
    private static boolean isPlain(TypeMirror type) {
        TypeMirror inner = type instanceof ArrayType array ? array.getComponentType() : type;
        return inner.getKind().isPrimitive() || inner instanceof DeclaredType declared && isOwn(declared.asElement());
    }

    private static boolean isOwn(Element element) {
        Element type = element;
        while (type != null && !(type instanceof TypeElement found && found.getNestingKind().name().equals("TOP_LEVEL"))) {
            type = type.getEnclosingElement();
        }
        return type != null && type.toString().equals("EquationDesk");
    }

    @Override
    public Void visitMethodInvocation(MethodInvocationTree tree, Void none) {
        Element called = element();
        Element caller = owner();
        String type = called.getEnclosingElement().getSimpleName().toString();
        String name = called.getSimpleName().toString();
        boolean library = called.getModifiers().contains(Modifier.STATIC)
                && (LIBRARY.contains(type) && !name.endsWith("Exact") && isPlain(trees.getTypeMirror(getCurrentPath()))
                || type.equals("System") && name.equals("arraycopy"));
        // What javac itself puts in, the constructor of Object, has the place of its class.
        boolean above = name.equals("<init>") && type.equals("Object");
        due("rule 4: " + type + "." + name, tree, isOwn(called) || library || above);
        if (caller != null && !above) {
            calls.computeIfAbsent(caller, method -> new HashSet<>()).add(called);
        }
        return super.visitMethodInvocation(tree, none);
    }

    @Override
    public Void visitNewClass(NewClassTree tree, Void none) {
        Element caller = owner();
        boolean thrown = getCurrentPath().getParentPath().getLeaf() instanceof ThrowTree;
        boolean making = caller == null || caller.getKind() == ElementKind.CONSTRUCTOR;
        due("rule 12: only a constructor makes objects", tree, thrown || making);
        due("rule 3: only the file's own classes are made", tree, thrown || isOwn(element()));
        if (caller != null && !thrown) {
            calls.computeIfAbsent(caller, method -> new HashSet<>()).add(element());
        }
        return super.visitNewClass(tree, none);
    }

    @Override
    public Void visitNewArray(NewArrayTree tree, Void none) {
        Element caller = owner();
        due("rule 12: only a constructor makes arrays", tree,
                caller == null || caller.getKind() == ElementKind.CONSTRUCTOR);
        return super.visitNewArray(tree, none);
    }

    @Override
    public Void visitThrow(ThrowTree tree, Void none) {
        boolean plain = tree.getExpression() instanceof NewClassTree made
                && EXCEPTIONS.contains(made.getIdentifier().toString()) && made.getClassBody() == null
                && made.getArguments().stream().allMatch(text -> text instanceof LiteralTree);
        due("rule 6: throw new E()", tree, plain);
        due("rule 6: no throw in a constructor", tree, owner().getKind() != ElementKind.CONSTRUCTOR);
        due("only a call of the face throws", tree, owner().getModifiers().contains(Modifier.PUBLIC));
        return super.visitThrow(tree, none);
    }

    @Override
    public Void visitWhileLoop(WhileLoopTree tree, Void none) {
        due("rule 9: the end of a loop", tree, !tree.getCondition().toString().equals("(true)"));
        return super.visitWhileLoop(tree, none);
    }

    @Override
    public Void visitForLoop(ForLoopTree tree, Void none) {
        due("rule 9: the end of a loop", tree, tree.getCondition() != null && !tree.getUpdate().isEmpty());
        return super.visitForLoop(tree, none);
    }

    @Override
    public Void visitTry(TryTree tree, Void none) {
        due("nothing is to be caught here", tree, false);
        return null;
    }

    @Override
    public Void visitLambdaExpression(LambdaExpressionTree tree, Void none) {
        due("rule 2: no lambda", tree, false);
        return null;
    }

    @Override
    public Void visitMemberReference(MemberReferenceTree tree, Void none) {
        due("rule 2: no method reference", tree, false);
        return null;
    }

    @Override
    public Void visitAssert(AssertTree tree, Void none) {
        due("rule 6: no assert", tree, false);
        return null;
    }

    @Override
    public Void visitSynchronized(SynchronizedTree tree, Void none) {
        due("rule 6: no synchronized", tree, false);
        return null;
    }
}
