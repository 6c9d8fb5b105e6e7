import com.sun.source.tree.ClassTree;
import com.sun.source.tree.CompilationUnitTree;
import com.sun.source.tree.ImportTree;
import com.sun.source.tree.MethodInvocationTree;
import com.sun.source.tree.MethodTree;
import com.sun.source.tree.NewClassTree;
import com.sun.source.tree.ThrowTree;
import com.sun.source.tree.Tree;
import com.sun.source.tree.TypeCastTree;
import com.sun.source.tree.VariableTree;
import com.sun.source.util.JavacTask;
import com.sun.source.util.SourcePositions;
import com.sun.source.util.TreeScanner;
import com.sun.source.util.Trees;
import java.nio.file.Files;
import java.nio.file.Path;
import java.util.EnumSet;
import java.util.List;
import java.util.Map;
import java.util.Set;
import java.util.TreeMap;
import java.util.TreeSet;
import javax.lang.model.element.Modifier;
import javax.tools.JavaCompiler;
import javax.tools.StandardJavaFileManager;
import javax.tools.ToolProvider;

/** Those rules of ../shared/LANGUAGE.md that can be seen in the text of the class. */
public final class RulesTest extends TreeScanner<Void, String> {
    private static final Path FILE = Path.of("src/main/java/CanalMaps.java");

    private static final Set<String> IMPORTS = Set.of(
            "java.util.ArrayList", "java.util.List", "java.util.Arrays", "java.util.NoSuchElementException");

    private static final Set<String> THROWN = Set.of(
            "IllegalStateException", "IllegalArgumentException", "IndexOutOfBoundsException", "ArithmeticException",
            "UnsupportedOperationException", "NoSuchElementException", "RuntimeException");

    /** Calls of the library on something that has a name, and on the classes of the library by their names. */
    private static final Set<String> LIBRARY = Set.of(
            "length", "charAt", "append", "setLength", "add", "get", "size", "values");

    private static final Set<String> LIBRARY_STATIC = Set.of(
            "System.arraycopy", "Arrays.copyOf", "Arrays.fill", "Math.min", "Math.max", "Math.floorMod");

    /** No lambda, no catching of what the machine throws, and the like. */
    private static final Set<Tree.Kind> RULED_OUT = EnumSet.of(
            Tree.Kind.LAMBDA_EXPRESSION, Tree.Kind.MEMBER_REFERENCE, Tree.Kind.TRY, Tree.Kind.SYNCHRONIZED,
            Tree.Kind.ASSERT, Tree.Kind.INSTANCE_OF, Tree.Kind.WHILE_LOOP,
            Tree.Kind.DO_WHILE_LOOP, Tree.Kind.SWITCH_EXPRESSION, Tree.Kind.ANNOTATION);

    private final CompilationUnitTree unit;
    private final SourcePositions positions;
    private final Map<String, Set<String>> calls = new TreeMap<>();
    private int classes = 0;

    private RulesTest(CompilationUnitTree unit, SourcePositions positions) {
        this.unit = unit;
        this.positions = positions;
    }

    public static void main(String[] args) throws Exception {
        Check.in("rules");
        JavaCompiler compiler = ToolProvider.getSystemJavaCompiler();
        try (StandardJavaFileManager files = compiler.getStandardFileManager(null, null, null)) {
            JavacTask task = (JavacTask) compiler.getTask(null, files, null, null, null,
                    files.getJavaFileObjects(FILE));
            CompilationUnitTree unit = task.parse().iterator().next();
            RulesTest test = new RulesTest(unit, Trees.instance(task).getSourcePositions());
            test.scan(unit, "");
            Check.isTrue(test.classes <= 12, test.classes + " classes");
            for (String method : test.calls.keySet()) {
                int depth = test.depth(method, 0);
                Check.isTrue(depth <= 8, method + " is " + depth + " deep");
            }
        }
        for (char sign : Files.readString(FILE).toCharArray()) {
            Check.isTrue(sign < 128, "the sign " + (int) sign);
        }
        Check.end();
    }

    /** How deep calls go from a method, itself counted; methods of one name are taken for one. */
    private int depth(String method, int above) {
        int deepest = 0;
        if (above > 20) {
            Check.fail(method + " calls itself");
            return 0;
        }
        for (String called : calls.get(method)) {
            if (calls.containsKey(called)) {
                deepest = Math.max(deepest, depth(called, above + 1));
            }
        }
        return deepest + 1;
    }

    private long line(Tree tree, boolean isEnd) {
        return unit.getLineMap().getLineNumber(isEnd ? positions.getEndPosition(unit, tree)
                : positions.getStartPosition(unit, tree));
    }

    @Override
    public Void scan(Tree tree, String method) {
        if (tree != null && RULED_OUT.contains(tree.getKind())) {
            Check.fail("line " + line(tree, false) + " has a " + tree.getKind());
        }
        return super.scan(tree, method);
    }

    @Override
    public Void visitImport(ImportTree tree, String method) {
        Check.isTrue(IMPORTS.contains(tree.getQualifiedIdentifier().toString()), tree.toString());
        return null;
    }

    @Override
    public Void visitClass(ClassTree tree, String method) {
        classes++;
        int fields = 0;
        for (Tree member : tree.getMembers()) {
            boolean isField = member.getKind() == Tree.Kind.VARIABLE;
            if (isField && !((VariableTree) member).getModifiers().getFlags().contains(Modifier.STATIC)) {
                fields++;
            }
            Check.isTrue(member.getKind() != Tree.Kind.BLOCK, "a block in a class");
        }
        Check.isTrue(fields <= 20, tree.getSimpleName() + " has " + fields + " fields");
        return super.visitClass(tree, "");
    }

    @Override
    public Void visitMethod(MethodTree tree, String method) {
        String name = tree.getName().toString();
        long lines = line(tree, true) - line(tree, false) + 1;
        Check.isTrue(lines <= 60, name + " has " + lines + " lines");
        Check.isTrue(tree.getParameters().size() <= 7, name + " takes too much");
        calls.putIfAbsent(name, new TreeSet<>());
        return super.visitMethod(tree, name);
    }

    @Override
    public Void visitMethodInvocation(MethodInvocationTree tree, String method) {
        String called = tree.getMethodSelect().toString();
        String name = called.substring(called.lastIndexOf('.') + 1);
        boolean isOfClass = Character.isUpperCase(called.charAt(0)) && !called.startsWith("Change.");
        if (isOfClass) {
            Check.isTrue(LIBRARY_STATIC.contains(called), "line " + line(tree, false) + " calls " + called);
        } else if (!name.equals("super")) {
            calls.computeIfAbsent(method, none -> new TreeSet<>()).add(name);
        }
        return super.visitMethodInvocation(tree, method);
    }

    @Override
    public Void visitTypeCast(TypeCastTree tree, String method) {
        Check.isTrue(tree.getType().getKind() == Tree.Kind.PRIMITIVE_TYPE, "line " + line(tree, false) + " casts");
        return super.visitTypeCast(tree, method);
    }

    @Override
    public Void visitThrow(ThrowTree tree, String method) {
        Check.isTrue(tree.getExpression().getKind() == Tree.Kind.NEW_CLASS, "throws what is not new");
        Check.isTrue(!method.equals("<init>"), "a constructor throws");
        NewClassTree thrown = (NewClassTree) tree.getExpression();
        Check.isTrue(THROWN.contains(thrown.getIdentifier().toString()), "throws " + thrown);
        Check.isTrue(List.of(0, 1).contains(thrown.getArguments().size()), "throws " + thrown);
        return super.visitThrow(tree, method);
    }

    /** What is called has to be a method of the file, or one of those that the rules list. */
    @Override
    public Void visitCompilationUnit(CompilationUnitTree tree, String method) {
        super.visitCompilationUnit(tree, method);
        Set<String> called = new TreeSet<>();
        for (Set<String> names : calls.values()) {
            called.addAll(names);
        }
        called.removeAll(calls.keySet());
        called.removeAll(LIBRARY);
        Check.is(new TreeSet<String>(), called);
        return null;
    }
}
