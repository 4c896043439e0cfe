import com.sun.source.tree.AssertTree;
import com.sun.source.tree.BinaryTree;
import com.sun.source.tree.BlockTree;
import com.sun.source.tree.ClassTree;
import com.sun.source.tree.CompilationUnitTree;
import com.sun.source.tree.DoWhileLoopTree;
import com.sun.source.tree.EnhancedForLoopTree;
import com.sun.source.tree.ExpressionTree;
import com.sun.source.tree.ForLoopTree;
import com.sun.source.tree.LambdaExpressionTree;
import com.sun.source.tree.LiteralTree;
import com.sun.source.tree.MemberReferenceTree;
import com.sun.source.tree.MethodInvocationTree;
import com.sun.source.tree.MethodTree;
import com.sun.source.tree.NewClassTree;
import com.sun.source.tree.SynchronizedTree;
import com.sun.source.tree.ThrowTree;
import com.sun.source.tree.Tree;
import com.sun.source.tree.TryTree;
import com.sun.source.tree.VariableTree;
import com.sun.source.tree.WhileLoopTree;
import com.sun.source.util.JavacTask;
import com.sun.source.util.TreePath;
import com.sun.source.util.TreePathScanner;
import com.sun.source.util.Trees;
import java.io.IOException;
import java.nio.file.Path;
import java.util.ArrayList;
import java.util.LinkedHashMap;
import java.util.LinkedHashSet;
import java.util.List;
import java.util.Map;
import java.util.Set;
import javax.lang.model.element.Element;
import javax.lang.model.element.ExecutableElement;
import javax.lang.model.element.Modifier;
import javax.tools.JavaCompiler;
import javax.tools.ToolProvider;

/** What the rules of LANGUAGE.md ask about, as the compiler sees it in a source file. */
final class Source extends TreePathScanner<Void, Void> {
    private static final int PARAMETERS = 7;
    private static final int LINES = 60;
    private static final int FIELDS = 20;
    private static final Set<String> THROWN = Set.of("IllegalStateException", "IllegalArgumentException",
        "IndexOutOfBoundsException", "ArithmeticException", "UnsupportedOperationException", "NoSuchElementException",
        "RuntimeException");
    private static final Set<String> CONSTANTS = Set.of("int", "long", "boolean", "char", "String",
        "int[]", "long[]", "char[]", "byte[]");

    final List<String> wrongs = new ArrayList<>();
    /** Methods and constructors, with those of the file that each of them calls. */
    final Map<String, Set<String>> calls = new LinkedHashMap<>();
    final Set<String> library = new LinkedHashSet<>();
    final List<String> classes = new ArrayList<>();

    private final CompilationUnitTree unit;
    private final Trees trees;
    private final Set<String> face = new LinkedHashSet<>();
    private int loops;

    private Source(CompilationUnitTree unit, Trees trees) {
        this.unit = unit;
        this.trees = trees;
    }

    static boolean canBeRead() {
        return ToolProvider.getSystemJavaCompiler() != null;
    }

    static Source read(Path file) throws IOException {
        JavaCompiler compiler = ToolProvider.getSystemJavaCompiler();
        try (var files = compiler.getStandardFileManager(null, null, null)) {
            var units = files.getJavaFileObjects(file);
            JavacTask task = (JavacTask) compiler.getTask(null, files, null, List.of("-proc:none"), null, units);
            CompilationUnitTree unit = task.parse().iterator().next();
            task.analyze();
            Source source = new Source(unit, Trees.instance(task));
            source.scan(unit, null);
            return source;
        }
    }

    /** How many methods stand open at most, from this one on; a cycle counts as a thousand. */
    int depth(String method, int above) {
        if (above > 100) {
            return 1000;
        }
        int deepest = 0;
        for (String called : calls.getOrDefault(method, Set.of())) {
            deepest = Math.max(deepest, depth(called, above + 1));
        }
        return deepest + 1;
    }

    @Override
    public Void visitCompilationUnit(CompilationUnitTree tree, Void none) {
        ask(1, "no package line", tree.getPackage() == null);
        ask(2, "one class in the file", tree.getTypeDecls().size() == 1);
        ask(4, "imports of java.util alone", tree.getImports().stream()
            .allMatch(i -> i.toString().matches("import java\\.util\\.(ArrayList|List|Arrays|Iterator);\\s*")));
        return super.visitCompilationUnit(tree, none);
    }

    @Override
    public Void visitClass(ClassTree tree, Void none) {
        Element element = trees.getElement(getCurrentPath());
        boolean isOuter = classes.isEmpty();
        classes.add(tree.getSimpleName().toString());
        int fields = 0;
        for (Tree member : tree.getMembers()) {
            if (member instanceof VariableTree v && !v.getModifiers().getFlags().contains(Modifier.STATIC)) {
                fields++;
            }
            if (isOuter && member instanceof MethodTree m && m.getModifiers().getFlags().contains(Modifier.PUBLIC)) {
                face.add(m.getName().toString());
            }
            ask(5, "no block of initialising in " + tree.getSimpleName(), !(member instanceof BlockTree));
        }
        ask(11, "some twenty fields in " + tree.getSimpleName(), fields <= FIELDS);
        Set<Modifier> flags = element.getModifiers();
        ask(1, "public and final outside, static and not public inside: " + tree.getSimpleName(), isOuter
            ? flags.contains(Modifier.PUBLIC) && flags.contains(Modifier.FINAL)
            : flags.contains(Modifier.STATIC) && !flags.contains(Modifier.PUBLIC) && !flags.contains(Modifier.PROTECTED));
        return super.visitClass(tree, none);
    }

    @Override
    public Void visitMethod(MethodTree tree, Void none) {
        String name = tree.getName().toString();
        Set<Modifier> flags = tree.getModifiers().getFlags();
        calls.putIfAbsent(nameOf(trees.getElement(getCurrentPath())), new LinkedHashSet<>());
        ask(1, "no private method with a name of the face: " + name,
            !flags.contains(Modifier.PRIVATE) || !face.contains(name) || name.equals("<init>"));
        ask(1, "nothing of the outer class but its face is seen: " + name, classes.size() > 1
            || flags.contains(Modifier.PUBLIC) || flags.contains(Modifier.PRIVATE));
        ask(6, "no equals, hashCode, toString", !Set.of("equals", "hashCode", "toString").contains(name));
        ask(11, "at most seven parameters: " + name, tree.getParameters().size() <= PARAMETERS);
        ask(11, "some sixty lines: " + name, tree.getBody() == null || linesOf(tree) <= LINES);
        return super.visitMethod(tree, none);
    }

    @Override
    public Void visitVariable(VariableTree tree, Void none) {
        Set<Modifier> flags = tree.getModifiers().getFlags();
        String type = String.valueOf(tree.getType());
        if (flags.contains(Modifier.STATIC)) {
            ask(5, "a static field that is a constant: " + tree, flags.contains(Modifier.FINAL)
                && CONSTANTS.contains(type) && tree.getInitializer() != null);
        }
        ask(3, "a type of the list: " + tree, type.matches(
            "(int|long|short|byte|char|boolean|double|float|String|StringBuilder|Integer|(Array)?List<\\w+>|" + String.join("|", own())
                + ")(\\[\\])?(\\[\\])?"));
        return super.visitVariable(tree, none);
    }

    @Override
    public Void visitMethodInvocation(MethodInvocationTree tree, Void none) {
        called(trees.getElement(new TreePath(getCurrentPath(), tree.getMethodSelect())));
        return super.visitMethodInvocation(tree, none);
    }

    @Override
    public Void visitNewClass(NewClassTree tree, Void none) {
        Element made = trees.getElement(getCurrentPath());
        if (getCurrentPath().getParentPath().getLeaf() instanceof ThrowTree) {
            ask(6, "an exception of the list: " + tree, THROWN.contains(tree.getIdentifier().toString())
                && (tree.getArguments().isEmpty() || tree.getArguments().size() == 1
                && tree.getArguments().get(0) instanceof LiteralTree));
        } else {
            called(made);
            MethodTree method = methodAround();
            ask(12, "no object is made in a loop but by a constructor: " + tree,
                loops == 0 || method != null && method.getName().contentEquals("<init>"));
        }
        return super.visitNewClass(tree, none);
    }

    @Override
    public Void visitThrow(ThrowTree tree, Void none) {
        MethodTree method = methodAround();
        ask(6, "no throw in a constructor", method != null && !method.getName().contentEquals("<init>"));
        ask(6, "throw new: " + tree, tree.getExpression() instanceof NewClassTree);
        return super.visitThrow(tree, none);
    }

    @Override
    public Void visitWhileLoop(WhileLoopTree tree, Void none) {
        ask(9, "a counter against a bound: " + tree.getCondition(), compares(tree.getCondition()));
        return inLoop(() -> super.visitWhileLoop(tree, none));
    }

    @Override
    public Void visitDoWhileLoop(DoWhileLoopTree tree, Void none) {
        ask(9, "a counter against a bound: " + tree.getCondition(), compares(tree.getCondition()));
        return inLoop(() -> super.visitDoWhileLoop(tree, none));
    }

    @Override
    public Void visitForLoop(ForLoopTree tree, Void none) {
        ask(9, "a counter against a bound: " + tree.getCondition(), compares(tree.getCondition()));
        return inLoop(() -> super.visitForLoop(tree, none));
    }

    @Override
    public Void visitEnhancedForLoop(EnhancedForLoopTree tree, Void none) {
        return inLoop(() -> super.visitEnhancedForLoop(tree, none));
    }

    @Override
    public Void visitLambdaExpression(LambdaExpressionTree tree, Void none) {
        ask(2, "no lambda: " + tree, false);
        return super.visitLambdaExpression(tree, none);
    }

    @Override
    public Void visitMemberReference(MemberReferenceTree tree, Void none) {
        ask(2, "no method reference: " + tree, false);
        return super.visitMemberReference(tree, none);
    }

    @Override
    public Void visitTry(TryTree tree, Void none) {
        ask(6, "no finally, no resources", tree.getFinallyBlock() == null && tree.getResources().isEmpty());
        return super.visitTry(tree, none);
    }

    @Override
    public Void visitSynchronized(SynchronizedTree tree, Void none) {
        ask(6, "no synchronized", false);
        return super.visitSynchronized(tree, none);
    }

    @Override
    public Void visitAssert(AssertTree tree, Void none) {
        ask(6, "no assert", false);
        return super.visitAssert(tree, none);
    }

    @Override
    public Void visitBinary(BinaryTree tree, Void none) {
        boolean divides = tree.getKind() == Tree.Kind.DIVIDE || tree.getKind() == Tree.Kind.REMAINDER;
        String divisor = tree.getRightOperand().toString();
        ask(7, "a divisor that is a constant: " + tree, !divides || divisor.matches("[1-9][0-9]*|([A-Z]\\w*\\.)?[A-Z_]+"));
        String type = String.valueOf(trees.getTypeMirror(getCurrentPath()));
        ask(10, "texts are not joined by +: " + tree, tree.getKind() != Tree.Kind.PLUS || !type.contains("String"));
        return super.visitBinary(tree, none);
    }

    private void ask(int rule, String what, boolean holds) {
        if (!holds) {
            wrongs.add("rule " + rule + ": " + what);
        }
    }

    private Void inLoop(Runnable visit) {
        loops++;
        visit.run();
        loops--;
        return null;
    }

    private List<String> own() {
        List<String> names = new ArrayList<>();
        for (Tree tree : unit.getTypeDecls()) {
            for (Tree member : ((ClassTree) tree).getMembers()) {
                if (member instanceof ClassTree c) {
                    names.add(c.getSimpleName().toString());
                }
            }
        }
        return names;
    }

    private void called(Element callee) {
        String name = nameOf(callee);
        if (trees.getTree(callee.getEnclosingElement()) != null) {
            MethodTree method = methodAround();
            String caller = method == null ? nameOfConstructor() : nameOf(trees.getElement(pathOf(method)));
            calls.computeIfAbsent(caller, key -> new LinkedHashSet<>()).add(name);
        } else if (!name.equals("Object.<init>")) {
            library.add(name);
        }
    }

    /** What a field is made with is done by the constructor. */
    private String nameOfConstructor() {
        for (TreePath at = getCurrentPath(); at != null; at = at.getParentPath()) {
            if (at.getLeaf() instanceof ClassTree c) {
                return c.getSimpleName() + ".<init>";
            }
        }
        return "";
    }

    private MethodTree methodAround() {
        for (TreePath at = getCurrentPath(); at != null; at = at.getParentPath()) {
            if (at.getLeaf() instanceof MethodTree m) {
                return m;
            }
        }
        return null;
    }

    private TreePath pathOf(Tree tree) {
        return trees.getPath(unit, tree);
    }

    private static String nameOf(Element method) {
        return method.getEnclosingElement().getSimpleName() + "." + ((ExecutableElement) method).getSimpleName();
    }

    private long linesOf(MethodTree tree) {
        long from = trees.getSourcePositions().getStartPosition(unit, tree);
        long to = trees.getSourcePositions().getEndPosition(unit, tree);
        return unit.getLineMap().getLineNumber(to) - unit.getLineMap().getLineNumber(from) + 1;
    }

    private static boolean compares(ExpressionTree condition) {
        return condition != null && condition.toString().matches("(?s).*[a-zA-Z]+ <=? .*");
    }
}
