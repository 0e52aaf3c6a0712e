import com.sun.source.tree.AssertTree;
import com.sun.source.tree.CatchTree;
import com.sun.source.tree.ClassTree;
import com.sun.source.tree.CompilationUnitTree;
import com.sun.source.tree.ExpressionTree;
import com.sun.source.tree.ImportTree;
import com.sun.source.tree.LambdaExpressionTree;
import com.sun.source.tree.LiteralTree;
import com.sun.source.tree.MemberReferenceTree;
import com.sun.source.tree.MemberSelectTree;
import com.sun.source.tree.MethodInvocationTree;
import com.sun.source.tree.MethodTree;
import com.sun.source.tree.NewArrayTree;
import com.sun.source.tree.NewClassTree;
import com.sun.source.tree.SynchronizedTree;
import com.sun.source.tree.ThrowTree;
import com.sun.source.tree.Tree;
import com.sun.source.tree.TryTree;
import com.sun.source.tree.VariableTree;
import com.sun.source.util.JavacTask;
import com.sun.source.util.TreePathScanner;
import com.sun.source.util.TreeScanner;
import com.sun.source.util.Trees;
import java.nio.file.Files;
import java.nio.file.Path;
import java.util.LinkedHashMap;
import java.util.LinkedHashSet;
import java.util.List;
import java.util.Map;
import java.util.Set;
import javax.lang.model.element.Element;
import javax.lang.model.element.Modifier;
import javax.tools.JavaCompiler;
import javax.tools.StandardJavaFileManager;
import javax.tools.ToolProvider;

/** The rules of LANGUAGE.md that a look at the source can tell; the others are for the reader. */
public final class LanguageTest {
    private static final Path SOURCE = Path.of("src/main/java/RobotAisles.java");
    private static final Set<String> IMPORTS = Set.of("java.util.Arrays", "java.util.NoSuchElementException");
    private static final Set<String> THROWN = Set.of("IllegalStateException", "IllegalArgumentException",
        "IndexOutOfBoundsException", "ArithmeticException", "UnsupportedOperationException", "NoSuchElementException");
    private static final Set<String> STATIC_CALLS = Set.of("min", "max", "fill", "arraycopy", "kindOf", "length");

    private static final int CALLS_DEEP = 8;
    private static final int FACE_AT_LEAST = 37;

    private static int wrong;
    private static int right;

    public static void main(String[] args) throws Exception {
        JavaCompiler compiler = ToolProvider.getSystemJavaCompiler();
        try (StandardJavaFileManager files = compiler.getStandardFileManager(null, null, null)) {
            JavacTask task = (JavacTask) compiler.getTask(null, files, null, null, null, files.getJavaFileObjects(SOURCE));
            CompilationUnitTree unit = task.parse().iterator().next();
            check("one class alone, without a package", unit.getTypeDecls().size() == 1 && unit.getPackageName() == null);
            Rules rules = new Rules(unit, Trees.instance(task));
            rules.scan(unit, null);
            check("some twelve classes at most", rules.classes <= 12);
            task.analyze();
            Calls calls = new Calls(Trees.instance(task));
            calls.scan(unit, null);
            check("calls are found", calls.made.size() > FACE_AT_LEAST);
            for (Element method : calls.made.keySet()) {
                int depth = calls.depth(method, 1);
                check(method + " goes at most eight deep, and in no circle: " + depth, depth <= CALLS_DEEP);
            }
        }
        for (byte b : Files.readAllBytes(SOURCE)) {
            if (b < 0) {
                check("signs 1 to 127 alone", false);
            }
        }
        System.out.println("LanguageTest: " + right + " passed, " + wrong + " failed");
        System.exit(wrong == 0 ? 0 : 1);
    }

    private static void check(String what, boolean holds) {
        if (holds) {
            right++;
        } else {
            wrong++;
            System.out.println("not so: " + what);
        }
    }

    /** Which method calls which; the library's own are left out. */
    private static final class Calls extends TreePathScanner<Void, Void> {
        private final Map<Element, Set<Element>> made = new LinkedHashMap<>();
        private final Trees trees;
        private Element caller;

        Calls(Trees trees) {
            this.trees = trees;
        }

        @Override
        public Void visitMethod(MethodTree tree, Void none) {
            caller = trees.getElement(getCurrentPath());
            made.computeIfAbsent(caller, key -> new LinkedHashSet<>());
            super.visitMethod(tree, none);
            caller = null;
            return null;
        }

        @Override
        public Void visitMethodInvocation(MethodInvocationTree tree, Void none) {
            note();
            return super.visitMethodInvocation(tree, none);
        }

        @Override
        public Void visitNewClass(NewClassTree tree, Void none) {
            note();
            return super.visitNewClass(tree, none);
        }

        private void note() {
            if (caller != null) {
                made.get(caller).add(trees.getElement(getCurrentPath()));
            }
        }

        /** The most calls that stand open at once below the method, itself included; a circle goes too deep. */
        private int depth(Element method, int open) {
            int deepest = 1;
            for (Element called : made.getOrDefault(method, Set.of())) {
                if (made.containsKey(called) && open <= CALLS_DEEP) {
                    deepest = Math.max(deepest, 1 + depth(called, open + 1));
                }
            }
            return deepest;
        }
    }

    private static final class Rules extends TreeScanner<Void, Void> {
        private final CompilationUnitTree unit;
        private final Trees trees;
        private int classes;
        private boolean isMaker;
        private boolean isThrow;

        Rules(CompilationUnitTree unit, Trees trees) {
            this.unit = unit;
            this.trees = trees;
        }

        private void never(String what, Tree where) {
            long at = trees.getSourcePositions().getStartPosition(unit, where);
            check(what + ", line " + unit.getLineMap().getLineNumber(at), false);
        }

        private long lines(Tree tree) {
            long begin = trees.getSourcePositions().getStartPosition(unit, tree);
            long end = trees.getSourcePositions().getEndPosition(unit, tree);
            return unit.getLineMap().getLineNumber(end) - unit.getLineMap().getLineNumber(begin) + 1;
        }

        @Override
        public Void visitImport(ImportTree tree, Void none) {
            check("import " + tree.getQualifiedIdentifier(), IMPORTS.contains(tree.getQualifiedIdentifier().toString()));
            return null;
        }

        @Override
        public Void visitClass(ClassTree tree, Void none) {
            classes++;
            int fields = 0;
            for (Tree member : tree.getMembers()) {
                if (member instanceof VariableTree) {
                    Set<Modifier> flags = ((VariableTree) member).getModifiers().getFlags();
                    fields += flags.contains(Modifier.STATIC) ? 0 : 1;
                    check("a static field is final", !flags.contains(Modifier.STATIC) || flags.contains(Modifier.FINAL));
                }
                check("no initialiser block", member.getKind() != Tree.Kind.BLOCK);
            }
            check(tree.getSimpleName() + " has some twenty fields at most", fields <= 20);
            return super.visitClass(tree, none);
        }

        @Override
        public Void visitMethod(MethodTree tree, Void none) {
            check(tree.getName() + " is short", lines(tree) <= 60);
            check(tree.getName() + " takes seven parameters at most", tree.getParameters().size() <= 7);
            check(tree.getName() + " is not of every object",
                !Set.of("equals", "hashCode", "toString").contains(tree.getName().toString()));
            isMaker = tree.getName().contentEquals("<init>");
            super.visitMethod(tree, none);
            isMaker = false;
            return null;
        }

        @Override
        public Void visitThrow(ThrowTree tree, Void none) {
            ExpressionTree thrown = tree.getExpression();
            boolean isNew = thrown instanceof NewClassTree
                && THROWN.contains(((NewClassTree) thrown).getIdentifier().toString());
            if (!isNew || isMaker) {
                never("a throw of another form", tree);
            }
            isThrow = true;
            super.visitThrow(tree, none);
            isThrow = false;
            return null;
        }

        /** What is made by calls is counted over a whole run; so only constructors make anything. */
        @Override
        public Void visitNewClass(NewClassTree tree, Void none) {
            if (!isMaker && !isThrow || tree.getClassBody() != null) {
                never("new outside constructors", tree);
            }
            return super.visitNewClass(tree, none);
        }

        @Override
        public Void visitNewArray(NewArrayTree tree, Void none) {
            if (!isMaker && tree.getInitializers() == null) {
                never("a new array outside constructors", tree);
            }
            return super.visitNewArray(tree, none);
        }

        @Override
        public Void visitMemberSelect(MemberSelectTree tree, Void none) {
            String of = tree.getExpression().toString();
            boolean isLibrary = List.of("Math", "Arrays", "System", "Integer", "Long").contains(of);
            if (isLibrary && !STATIC_CALLS.contains(tree.getIdentifier().toString())) {
                never(tree + " of the library", tree);
            }
            return super.visitMemberSelect(tree, none);
        }

        @Override
        public Void visitLiteral(LiteralTree tree, Void none) {
            if (tree.getValue() instanceof String) {
                never("a text, which nothing here needs", tree);
            }
            return null;
        }

        @Override
        public Void visitLambdaExpression(LambdaExpressionTree tree, Void none) {
            never("a lambda", tree);
            return null;
        }

        @Override
        public Void visitMemberReference(MemberReferenceTree tree, Void none) {
            never("a method reference", tree);
            return null;
        }

        @Override
        public Void visitTry(TryTree tree, Void none) {
            never("try, which nothing here needs", tree);
            return null;
        }

        @Override
        public Void visitCatch(CatchTree tree, Void none) {
            never("catch", tree);
            return null;
        }

        @Override
        public Void visitAssert(AssertTree tree, Void none) {
            never("assert", tree);
            return null;
        }

        @Override
        public Void visitSynchronized(SynchronizedTree tree, Void none) {
            never("synchronized", tree);
            return null;
        }
    }
}
