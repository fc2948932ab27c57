import com.sun.source.tree.ClassTree;
import com.sun.source.tree.CompilationUnitTree;
import com.sun.source.tree.ExpressionTree;
import com.sun.source.tree.ForLoopTree;
import com.sun.source.tree.IdentifierTree;
import com.sun.source.tree.LiteralTree;
import com.sun.source.tree.MemberSelectTree;
import com.sun.source.tree.MethodInvocationTree;
import com.sun.source.tree.MethodTree;
import com.sun.source.tree.NewArrayTree;
import com.sun.source.tree.NewClassTree;
import com.sun.source.tree.ThrowTree;
import com.sun.source.tree.Tree;
import com.sun.source.tree.VariableTree;
import com.sun.source.tree.WhileLoopTree;
import com.sun.source.util.JavacTask;
import com.sun.source.util.TreeScanner;
import com.sun.source.util.Trees;
import java.io.File;
import java.io.IOException;
import java.util.ArrayDeque;
import java.util.Deque;
import java.util.EnumSet;
import java.util.HashMap;
import java.util.HashSet;
import java.util.List;
import java.util.Map;
import java.util.Set;
import java.util.TreeSet;
import javax.lang.model.element.Modifier;
import javax.tools.JavaCompiler;
import javax.tools.StandardJavaFileManager;
import javax.tools.ToolProvider;

/** The rules of LANGUAGE.md that can be looked up in the source: numbers in brackets are the rules'. */
public final class LanguageTest {
    private static final File SOURCE = new File("src/main/java/ChanceGame.java");
    private static final Set<String> LIBRARY = Set.of("Math.max", "Math.min", "System.arraycopy");
    private static final Set<String> EXCEPTIONS = Set.of("IllegalStateException", "IllegalArgumentException",
        "IndexOutOfBoundsException");
    private static final Set<String> PLAIN_TYPES = Set.of("int", "long", "boolean", "char", "int[]", "long[]", "char[]",
        "int[][]", "long[][]");

    /** [2] and [6]; a try, too, as no method here needs one. */
    private static final Set<Tree.Kind> NEVER = EnumSet.of(Tree.Kind.LAMBDA_EXPRESSION, Tree.Kind.MEMBER_REFERENCE,
        Tree.Kind.TRY, Tree.Kind.SYNCHRONIZED, Tree.Kind.ASSERT);

    private final Check check = new Check();
    private final Set<String> classes = new TreeSet<>();
    private final Map<String, Set<String>> calls = new HashMap<>();
    private CompilationUnitTree unit;
    private Trees trees;

    public static void main(String[] args) throws IOException {
        new LanguageTest().run();
    }

    private void run() throws IOException {
        JavaCompiler compiler = ToolProvider.getSystemJavaCompiler();
        try (StandardJavaFileManager files = compiler.getStandardFileManager(null, null, null)) {
            JavacTask task = (JavacTask) compiler.getTask(null, files, null, List.of("-proc:none"), null,
                files.getJavaFileObjects(SOURCE));
            unit = task.parse().iterator().next();
            trees = Trees.instance(task);
            check.due("[4] imports", unit.getImports().size(), 0);
            check.due("the file has no package", unit.getPackageName() == null, true);
            new Names().scan(unit, null);
            new Rules().scan(unit, null);
            check.due("[11] some twelve classes: " + classes, classes.size() <= 12, true);
            callsAreFlat();
            facesNames();
        }
        check.end();
    }

    /** By names alone, so that it can only count too deep. */
    private void callsAreFlat() {
        for (String method : calls.keySet()) {
            check.due("[8] [11] calls below " + method, depth(method, new HashSet<>()) <= 8, true);
        }
    }

    private int depth(String method, Set<String> open) {
        if (!open.add(method)) {
            return 1000;
        }
        int deepest = 0;
        for (String called : calls.get(method)) {
            deepest = Math.max(deepest, calls.containsKey(called) ? depth(called, open) : 1);
        }
        open.remove(method);
        return 1 + deepest;
    }

    private void facesNames() {
        for (java.lang.reflect.Method method : ChanceGame.class.getDeclaredMethods()) {
            boolean isPublic = java.lang.reflect.Modifier.isPublic(method.getModifiers());
            for (Class<?> inside : ChanceGame.class.getDeclaredClasses()) {
                check.due("[1] " + inside + " is static", java.lang.reflect.Modifier.isStatic(inside.getModifiers()), true);
                for (java.lang.reflect.Method other : inside.getDeclaredMethods()) {
                    boolean same = isPublic && other.getName().equals(method.getName());
                    check.due("[1] " + other + " bears a public name", same, false);
                }
            }
        }
    }

    private final class Names extends TreeScanner<Void, Void> {
        @Override
        public Void visitClass(ClassTree tree, Void nothing) {
            classes.add(tree.getSimpleName().toString());
            for (Tree member : tree.getMembers()) {
                if (member instanceof MethodTree method) {
                    calls.put(method.getName().toString(), new TreeSet<>());
                }
            }
            return super.visitClass(tree, nothing);
        }
    }

    private final class Rules extends TreeScanner<Void, Void> {
        private final Deque<String> open = new ArrayDeque<>();

        @Override
        public Void scan(Tree tree, Void nothing) {
            check.due("[2] [6] " + tree, tree != null && NEVER.contains(tree.getKind()), false);
            return super.scan(tree, nothing);
        }

        @Override
        public Void visitClass(ClassTree tree, Void nothing) {
            int fields = 0;
            for (Tree member : tree.getMembers()) {
                if (member instanceof VariableTree field) {
                    Set<Modifier> flags = field.getModifiers().getFlags();
                    boolean isStatic = flags.contains(Modifier.STATIC);
                    fields += isStatic ? 0 : 1;
                    check.due("[5] static and not final: " + field, isStatic && !flags.contains(Modifier.FINAL), false);
                } else {
                    boolean fits = member instanceof MethodTree || member instanceof ClassTree;
                    check.due("[5] a block in a class: " + member.getKind(), fits, true);
                }
            }
            check.due("[11] some twenty fields of " + tree.getSimpleName(), fields <= 20, true);
            return super.visitClass(tree, nothing);
        }

        @Override
        public Void visitMethod(MethodTree tree, Void nothing) {
            String name = tree.getName().toString();
            check.due("[11] parameters of " + name, tree.getParameters().size() <= 7, true);
            long lines = lineOf(trees.getSourcePositions().getEndPosition(unit, tree))
                - lineOf(trees.getSourcePositions().getStartPosition(unit, tree)) + 1;
            check.due("[11] lines of " + name, lines <= 60, true);
            open.push(name);
            super.visitMethod(tree, nothing);
            open.pop();
            return null;
        }

        private long lineOf(long position) {
            return unit.getLineMap().getLineNumber(position);
        }

        @Override
        public Void visitVariable(VariableTree tree, Void nothing) {
            String type = String.valueOf(tree.getType()).replace("ChanceGame.", "");
            boolean fits = PLAIN_TYPES.contains(type) || classes.contains(type.replace("[]", "")) && !type.endsWith("[][]");
            check.due("[3] the type " + type, fits, true);
            return super.visitVariable(tree, nothing);
        }

        @Override
        public Void visitMethodInvocation(MethodInvocationTree tree, Void nothing) {
            ExpressionTree select = tree.getMethodSelect();
            if (select instanceof MemberSelectTree member) {
                String name = member.getIdentifier().toString();
                boolean fits = calls.containsKey(name) || LIBRARY.contains(select.toString());
                check.due("[4] " + select, fits, true);
                called(name);
            } else if (select instanceof IdentifierTree own) {
                called(own.getName().toString());
            }
            return super.visitMethodInvocation(tree, nothing);
        }

        private void called(String name) {
            // A constructor's call of the one above it stands in no source line.
            if (!open.isEmpty() && !name.equals("super")) {
                calls.get(open.peek()).add(name);
            }
        }

        @Override
        public Void visitThrow(ThrowTree tree, Void nothing) {
            boolean fits = tree.getExpression() instanceof NewClassTree made
                && EXCEPTIONS.contains(made.getIdentifier().toString())
                && made.getArguments().size() == 1 && made.getArguments().get(0) instanceof LiteralTree;
            check.due("[6] " + tree, fits, true);
            check.due("[6] a throw in a constructor", "<init>".equals(open.peek()), false);
            return super.visitThrow(tree, nothing);
        }

        /** Only constructors, fields and throws make something: what calls make would be counted. */
        @Override
        public Void visitNewClass(NewClassTree tree, Void nothing) {
            boolean fits = EXCEPTIONS.contains(tree.getIdentifier().toString()) || open.isEmpty() || "<init>".equals(open.peek());
            check.due("[12] " + tree, fits, true);
            check.due("[2] a class without a name", tree.getClassBody() == null, true);
            return super.visitNewClass(tree, nothing);
        }

        @Override
        public Void visitNewArray(NewArrayTree tree, Void nothing) {
            check.due("[12] " + tree, open.isEmpty() || "<init>".equals(open.peek()), true);
            return super.visitNewArray(tree, nothing);
        }

        @Override
        public Void visitForLoop(ForLoopTree tree, Void nothing) {
            check.due("[9] a bound of " + tree, String.valueOf(tree.getCondition()).contains("<")
                || String.valueOf(tree.getCondition()).contains(">"), true);
            return super.visitForLoop(tree, nothing);
        }

        @Override
        public Void visitWhileLoop(WhileLoopTree tree, Void nothing) {
            check.due("[9] a bound of " + tree, tree.getCondition().toString().contains("<"), true);
            return super.visitWhileLoop(tree, nothing);
        }
    }
}
