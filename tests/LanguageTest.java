import com.sun.source.tree.AssertTree;
import com.sun.source.tree.BlockTree;
import com.sun.source.tree.ClassTree;
import com.sun.source.tree.CompilationUnitTree;
import com.sun.source.tree.IdentifierTree;
import com.sun.source.tree.ImportTree;
import com.sun.source.tree.LambdaExpressionTree;
import com.sun.source.tree.MemberReferenceTree;
import com.sun.source.tree.MemberSelectTree;
import com.sun.source.tree.MethodInvocationTree;
import com.sun.source.tree.MethodTree;
import com.sun.source.tree.NewArrayTree;
import com.sun.source.tree.NewClassTree;
import com.sun.source.tree.SynchronizedTree;
import com.sun.source.tree.ThrowTree;
import com.sun.source.tree.Tree;
import com.sun.source.tree.TryTree;
import com.sun.source.tree.VariableTree;
import com.sun.source.util.JavacTask;
import com.sun.source.util.SourcePositions;
import com.sun.source.util.TreePath;
import com.sun.source.util.TreePathScanner;
import com.sun.source.util.Trees;
import java.io.IOException;
import java.util.HashMap;
import java.util.HashSet;
import java.util.List;
import java.util.Map;
import java.util.Set;
import javax.lang.model.element.Element;
import javax.lang.model.element.ElementKind;
import javax.lang.model.element.Modifier;
import javax.tools.JavaCompiler;
import javax.tools.StandardJavaFileManager;
import javax.tools.ToolProvider;

/** Looks over the class, as the compiler has read it, for what ../shared/LANGUAGE.md rules out; by its numbers. */
public final class LanguageTest extends TreePathScanner<Void, Void> {
    private static final String SOURCE = "src/main/java/RowRanks.java";
    private static final Set<String> IMPORTS = Set.of("java.util.ArrayList", "java.util.List", "java.util.Iterator", "java.util.Arrays");
    private static final Set<String> TYPES = Set.of("void", "int", "long", "short", "byte", "char", "boolean", "double", "float",
        "String", "StringBuilder", "Integer", "ArrayList", "List", "Iterator", "Iterable", "Comparable");
    private static final Set<String> ARRAYS_CALLS = Set.of("copyOf", "copyOfRange", "fill");
    // Where the rules say "some", a few more are let pass.
    private static final int LINES = 66, PARAMETERS = 7, DEPTH = 8, CLASSES = 13, FIELDS = 22;

    private final Trees trees;
    private final SourcePositions positions;
    private final CompilationUnitTree unit;
    private final Set<String> ownClasses = new HashSet<>();
    private final Set<String> publicMethods = new HashSet<>();
    private final Map<Element, Set<Element>> calls = new HashMap<>();
    private Element method;

    private LanguageTest(JavacTask task, CompilationUnitTree unit) {
        this.trees = Trees.instance(task);
        this.positions = trees.getSourcePositions();
        this.unit = unit;
    }

    public static void main(String[] args) throws IOException {
        JavaCompiler compiler = ToolProvider.getSystemJavaCompiler();
        try (StandardJavaFileManager files = compiler.getStandardFileManager(null, null, null)) {
            JavacTask task = (JavacTask) compiler.getTask(null, files, null, List.of("-proc:none"), null, files.getJavaFileObjects(SOURCE));
            CompilationUnitTree unit = task.parse().iterator().next();
            task.analyze();
            new LanguageTest(task, unit).look();
        }
        Runs.finish();
    }

    private void look() {
        Runs.due("1: types in the file", unit.getTypeDecls().size(), 1);
        Runs.due("no package line", unit.getPackageName() == null ? 0 : 1, 0);
        for (ImportTree line : unit.getImports()) {
            rule("4", line, IMPORTS.contains(line.getQualifiedIdentifier().toString()));
        }
        new NameScanner().scan(unit, null);
        scan(unit, null);
        atMost("11: classes", ownClasses.size(), CLASSES);
        for (Element start : calls.keySet()) {
            atMost("11: how deep calls go in " + start, depth(start, new HashSet<>()), DEPTH);
        }
    }

    /** Finds the names that the other looks need, wherever they stand. */
    private final class NameScanner extends TreePathScanner<Void, Void> {
        @Override
        public Void visitClass(ClassTree tree, Void none) {
            ownClasses.add(tree.getSimpleName().toString());
            return super.visitClass(tree, none);
        }

        @Override
        public Void visitMethod(MethodTree tree, Void none) {
            // All constructors bear one name.
            if (tree.getModifiers().getFlags().contains(Modifier.PUBLIC) && tree.getReturnType() != null) {
                publicMethods.add(tree.getName().toString());
            }
            return super.visitMethod(tree, none);
        }
    }

    private void rule(String number, Tree tree, boolean isKept) {
        long line = unit.getLineMap().getLineNumber(positions.getStartPosition(unit, tree));
        Runs.due("rule " + number + " at line " + line, isKept ? 1 : 0, 1);
    }

    private static void atMost(String name, int count, int greatest) {
        Runs.due(name + ", at most " + greatest, Math.max(count, greatest), greatest);
    }

    private int depth(Element start, Set<Element> open) {
        int deepest = 0;
        open.add(start);
        for (Element called : calls.getOrDefault(start, Set.of())) {
            // Recursion has a rule of its own.
            if (!open.contains(called)) {
                deepest = Math.max(deepest, depth(called, open) + 1);
            }
        }
        open.remove(start);
        return deepest;
    }

    @Override
    public Void visitClass(ClassTree tree, Void none) {
        Set<Modifier> modifiers = tree.getModifiers().getFlags();
        Element outer = trees.getElement(getCurrentPath()).getEnclosingElement();
        if (outer.getKind() == ElementKind.PACKAGE) {
            rule("1", tree, modifiers.contains(Modifier.PUBLIC) && modifiers.contains(Modifier.FINAL));
        } else {
            boolean isInside = outer.getKind().isClass() || outer.getKind().isInterface();
            rule("2", tree, isInside && (modifiers.contains(Modifier.STATIC) || tree.getKind() != Tree.Kind.CLASS));
            rule("1", tree, !modifiers.contains(Modifier.PUBLIC) && !modifiers.contains(Modifier.PROTECTED));
        }
        int fields = 0;
        for (Tree member : tree.getMembers()) {
            boolean isField = member instanceof VariableTree;
            fields += isField && !((VariableTree) member).getModifiers().getFlags().contains(Modifier.STATIC) ? 1 : 0;
            rule("5", member, !(member instanceof BlockTree) || !((BlockTree) member).isStatic());
        }
        atMost("11: fields of " + tree.getSimpleName(), fields, FIELDS);
        return super.visitClass(tree, none);
    }

    @Override
    public Void visitMethod(MethodTree tree, Void none) {
        Set<Modifier> modifiers = tree.getModifiers().getFlags();
        String name = tree.getName().toString();
        rule("1", tree, !modifiers.contains(Modifier.PRIVATE) || !publicMethods.contains(name));
        rule("6", tree, !Set.of("equals", "hashCode", "toString", "finalize").contains(name));
        rule("6", tree, tree.getThrows().isEmpty() && !modifiers.contains(Modifier.SYNCHRONIZED) && !modifiers.contains(Modifier.NATIVE));
        atMost("11: parameters of " + name, tree.getParameters().size(), PARAMETERS);
        long first = unit.getLineMap().getLineNumber(positions.getStartPosition(unit, tree));
        long last = unit.getLineMap().getLineNumber(positions.getEndPosition(unit, tree));
        atMost("11: lines of " + name, (int) (last - first + 1), LINES);
        typeIsKnown(tree.getReturnType());
        method = trees.getElement(getCurrentPath());
        calls.put(method, new HashSet<>());
        return super.visitMethod(tree, none);
    }

    @Override
    public Void visitVariable(VariableTree tree, Void none) {
        Set<Modifier> modifiers = tree.getModifiers().getFlags();
        typeIsKnown(tree.getType());
        if (modifiers.contains(Modifier.STATIC)) {
            boolean isPlain = Set.of("int", "long", "boolean", "char", "String").contains(tree.getType().toString());
            boolean isRow = Set.of("int[]", "long[]", "char[]", "byte[]").contains(tree.getType().toString())
                && tree.getInitializer() instanceof NewArrayTree;
            boolean isOwn = ownClasses.contains(tree.getType().toString().replace("[]", ""));
            rule("5", tree, modifiers.contains(Modifier.FINAL) && (isPlain || isRow || isOwn));
        }
        return super.visitVariable(tree, none);
    }

    private void typeIsKnown(Tree type) {
        if (type != null) {
            String plain = type.toString().replaceAll("<.*>", "").replace("[]", "").replaceAll(".*\\.", "");
            rule("3", type, TYPES.contains(plain) || ownClasses.contains(plain) || plain.length() == 1);
            boolean isFlat = !type.toString().endsWith("[][]") || Character.isLowerCase(plain.charAt(0));
            rule("3", type, isFlat && !type.toString().endsWith("[][][]"));
        }
    }

    @Override
    public Void visitMethodInvocation(MethodInvocationTree tree, Void none) {
        Element called = trees.getElement(new TreePath(getCurrentPath(), tree.getMethodSelect()));
        if (called != null && method != null && ownClasses.contains(called.getEnclosingElement().getSimpleName().toString())) {
            calls.computeIfAbsent(method, key -> new HashSet<>()).add(called);
        }
        return super.visitMethodInvocation(tree, none);
    }

    @Override
    public Void visitMemberSelect(MemberSelectTree tree, Void none) {
        String name = tree.getIdentifier().toString();
        switch (tree.getExpression().toString()) {
            case "System": rule("4", tree, name.equals("arraycopy")); break;
            case "Arrays": rule("4", tree, ARRAYS_CALLS.contains(name)); break;
            case "Math": case "Integer": case "Long": rule("4", tree, !name.endsWith("Exact") && !name.equals("random")); break;
            case "Float": case "Double": case "Thread": case "Objects": rule("4", tree, false); break;
            default: rule("4", tree, !Set.of("hashCode", "getClass", "wait", "notify").contains(name));
        }
        return super.visitMemberSelect(tree, none);
    }

    @Override
    public Void visitIdentifier(IdentifierTree tree, Void none) {
        rule("13", tree, !Set.of("Thread", "Runtime", "Object", "Class").contains(tree.getName().toString()));
        return super.visitIdentifier(tree, none);
    }

    @Override
    public Void visitNewClass(NewClassTree tree, Void none) {
        String made = tree.getIdentifier().toString().replaceAll("<.*>", "").replaceAll(".*\\.", "");
        rule("4", tree, ownClasses.contains(made) || Set.of("String", "StringBuilder", "ArrayList").contains(made));
        rule("2", tree, tree.getClassBody() == null);
        return super.visitNewClass(tree, none);
    }

    @Override
    public Void visitLambdaExpression(LambdaExpressionTree tree, Void none) {
        rule("2", tree, false);
        return null;
    }

    @Override
    public Void visitMemberReference(MemberReferenceTree tree, Void none) {
        rule("2", tree, false);
        return null;
    }

    @Override
    public Void visitThrow(ThrowTree tree, Void none) {
        rule("6", tree, false);
        return null;
    }

    @Override
    public Void visitTry(TryTree tree, Void none) {
        rule("6", tree, false);
        return null;
    }

    @Override
    public Void visitSynchronized(SynchronizedTree tree, Void none) {
        rule("6", tree, false);
        return null;
    }

    @Override
    public Void visitAssert(AssertTree tree, Void none) {
        rule("6", tree, false);
        return null;
    }
}
