import com.sun.source.tree.ClassTree;
import com.sun.source.tree.CompilationUnitTree;
import com.sun.source.tree.DoWhileLoopTree;
import com.sun.source.tree.ForLoopTree;
import com.sun.source.tree.IdentifierTree;
import com.sun.source.tree.LambdaExpressionTree;
import com.sun.source.tree.LiteralTree;
import com.sun.source.tree.MemberReferenceTree;
import com.sun.source.tree.MethodInvocationTree;
import com.sun.source.tree.MethodTree;
import com.sun.source.tree.NewArrayTree;
import com.sun.source.tree.NewClassTree;
import com.sun.source.tree.SynchronizedTree;
import com.sun.source.tree.ThrowTree;
import com.sun.source.tree.Tree;
import com.sun.source.tree.TryTree;
import com.sun.source.tree.VariableTree;
import com.sun.source.tree.WhileLoopTree;
import com.sun.source.tree.AssertTree;
import com.sun.source.util.JavacTask;
import com.sun.source.util.TreePath;
import com.sun.source.util.TreePathScanner;
import com.sun.source.util.Trees;
import java.nio.file.Files;
import java.nio.file.Path;
import java.util.HashMap;
import java.util.List;
import java.util.Map;
import java.util.Set;
import java.util.TreeSet;
import javax.lang.model.element.Element;
import javax.lang.model.element.ElementKind;
import javax.lang.model.element.Modifier;
import javax.tools.JavaCompiler;
import javax.tools.StandardJavaFileManager;
import javax.tools.ToolProvider;

/**
 * LANGUAGE.md, as far as the source shows it: what the class may use of the language and of the library, where
 * it may make objects and throw, how long its methods are and how deep its calls go.
 */
public final class LanguageTests {
    private static final Path SOURCE = Path.of("src/main/java/EdgeTasks.java");
    private static final Set<String> LIBRARY = Set.of("Math.min", "Math.max", "Math.abs", "Math.floorMod",
            "Math.floorDiv", "Integer.bitCount", "Integer.compare", "Long.compare", "System.arraycopy");
    private static final Set<String> EXCEPTIONS = Set.of("IllegalStateException", "IllegalArgumentException",
            "IndexOutOfBoundsException");
    private static final int MOST_LINES = 60;
    private static final int MOST_PARAMETERS = 7;
    private static final int MOST_CLASSES = 12;
    private static final int MOST_FIELDS = 20;
    private static final int DEEPEST_CALLS = 8;

    public static void main(String[] args) throws Exception {
        signs();
        JavaCompiler compiler = ToolProvider.getSystemJavaCompiler();
        try (StandardJavaFileManager files = compiler.getStandardFileManager(null, null, null)) {
            JavacTask task = (JavacTask) compiler.getTask(null, files, null, List.of("-proc:none"), null,
                    files.getJavaFileObjects(SOURCE));
            CompilationUnitTree unit = task.parse().iterator().next();
            task.analyze();
            Check.isTrue("a package line", unit.getPackage() == null);
            Check.isTrue("an import", unit.getImports().isEmpty());
            Check.same("classes beside the public one", unit.getTypeDecls().size(), 1);
            Reader reader = new Reader(unit, Trees.instance(task));
            reader.scan(unit, null);
            reader.classesInAll();
            reader.depths();
        }
        Check.end();
    }

    private static void signs() throws Exception {
        for (byte b : Files.readAllBytes(SOURCE)) {
            if (b <= 0) {
                Check.report("a sign of the source is not 1 to 127");
                return;
            }
        }
    }

    private static final class Reader extends TreePathScanner<Void, Void> {
        private final CompilationUnitTree unit;
        private final Trees trees;
        private final Map<Element, Set<Element>> calls = new HashMap<>();
        private int classes = 0;

        Reader(CompilationUnitTree unit, Trees trees) {
            this.unit = unit;
            this.trees = trees;
        }

        private void wrong(Tree tree, String what) {
            long line = unit.getLineMap().getLineNumber(trees.getSourcePositions().getStartPosition(unit, tree));
            Check.report("line " + line + ": " + what);
        }

        private MethodTree method() {
            for (TreePath p = getCurrentPath(); p != null; p = p.getParentPath()) {
                if (p.getLeaf() instanceof MethodTree m) {
                    return m;
                }
            }
            return null;
        }

        private boolean inConstructor() {
            MethodTree m = method();
            return m != null && m.getReturnType() == null;
        }

        private boolean atTheBeginning() {
            return method() == null || inConstructor();
        }

        private boolean inThrow() {
            return getCurrentPath().getParentPath().getLeaf() instanceof ThrowTree;
        }

        void classesInAll() {
            Check.isTrue("more than twelve classes", classes <= MOST_CLASSES);
        }

        @Override
        public Void visitClass(ClassTree tree, Void p) {
            classes++;
            int fields = 0;
            for (Tree member : tree.getMembers()) {
                if (member.getKind() == Tree.Kind.BLOCK) {
                    wrong(member, "an initialiser block");
                }
                if (member instanceof VariableTree v && !v.getModifiers().getFlags().contains(Modifier.STATIC)) {
                    fields++;
                }
                if (member instanceof VariableTree v && v.getModifiers().getFlags().contains(Modifier.STATIC)
                        && !(v.getModifiers().getFlags().contains(Modifier.FINAL)
                        && v.getType().getKind() == Tree.Kind.PRIMITIVE_TYPE)) {
                    wrong(v, "static state");
                }
            }
            if (fields > MOST_FIELDS) {
                wrong(tree, "more than twenty fields");
            }
            return super.visitClass(tree, p);
        }

        @Override
        public Void visitMethod(MethodTree tree, Void p) {
            long first = unit.getLineMap().getLineNumber(trees.getSourcePositions().getStartPosition(unit, tree));
            long last = unit.getLineMap().getLineNumber(trees.getSourcePositions().getEndPosition(unit, tree));
            if (last - first + 1 > MOST_LINES) {
                wrong(tree, tree.getName() + " is longer than sixty lines");
            }
            if (tree.getParameters().size() > MOST_PARAMETERS) {
                wrong(tree, tree.getName() + " takes more than seven parameters");
            }
            return super.visitMethod(tree, p);
        }

        @Override
        public Void visitMethodInvocation(MethodInvocationTree tree, Void p) {
            Element called = trees.getElement(new TreePath(getCurrentPath(), tree.getMethodSelect()));
            String owner = called.getEnclosingElement().toString();
            boolean own = owner.equals("EdgeTasks") || owner.startsWith("EdgeTasks.");
            boolean itsObject = owner.equals("java.lang.Object") && called.getKind() == ElementKind.CONSTRUCTOR;
            if (!own && !itsObject && !LIBRARY.contains(tree.getMethodSelect().toString())) {
                wrong(tree, tree.getMethodSelect() + " is not in the library that is allowed");
            }
            if (own && method() != null) {
                Element caller = trees.getElement(trees.getPath(unit, method()));
                calls.computeIfAbsent(caller, key -> new java.util.LinkedHashSet<>()).add(called);
            }
            if (own && inConstructor()) {
                wrong(tree, "a constructor that calls a method");
            }
            return super.visitMethodInvocation(tree, p);
        }

        @Override
        public Void visitNewClass(NewClassTree tree, Void p) {
            String name = tree.getIdentifier().toString();
            if (inThrow()) {
                boolean plain = tree.getArguments().stream().allMatch(a -> a instanceof LiteralTree);
                if (!EXCEPTIONS.contains(name) || !plain || tree.getArguments().size() > 1) {
                    wrong(tree, "throws " + tree);
                }
            } else if (!atTheBeginning()) {
                wrong(tree, "an object made by a method: " + tree);
            }
            return super.visitNewClass(tree, p);
        }

        @Override
        public Void visitNewArray(NewArrayTree tree, Void p) {
            if (!atTheBeginning()) {
                wrong(tree, "an array made by a method");
            }
            return super.visitNewArray(tree, p);
        }

        @Override
        public Void visitThrow(ThrowTree tree, Void p) {
            if (!(tree.getExpression() instanceof NewClassTree)) {
                wrong(tree, "a throw without new");
            }
            if (inConstructor()) {
                wrong(tree, "a throw in a constructor");
            }
            return super.visitThrow(tree, p);
        }

        @Override
        public Void visitForLoop(ForLoopTree tree, Void p) {
            if (tree.getCondition() == null || tree.getUpdate().isEmpty()) {
                wrong(tree, "a loop whose end cannot be seen");
            }
            return super.visitForLoop(tree, p);
        }

        @Override
        public Void visitWhileLoop(WhileLoopTree tree, Void p) {
            wrong(tree, "a loop without a counter");
            return super.visitWhileLoop(tree, p);
        }

        @Override
        public Void visitDoWhileLoop(DoWhileLoopTree tree, Void p) {
            wrong(tree, "a loop without a counter");
            return super.visitDoWhileLoop(tree, p);
        }

        @Override
        public Void visitTry(TryTree tree, Void p) {
            wrong(tree, "a try, which the class does not need");
            return super.visitTry(tree, p);
        }

        @Override
        public Void visitLambdaExpression(LambdaExpressionTree tree, Void p) {
            wrong(tree, "a lambda");
            return super.visitLambdaExpression(tree, p);
        }

        @Override
        public Void visitMemberReference(MemberReferenceTree tree, Void p) {
            wrong(tree, "a method reference");
            return super.visitMemberReference(tree, p);
        }

        @Override
        public Void visitSynchronized(SynchronizedTree tree, Void p) {
            wrong(tree, "synchronized");
            return super.visitSynchronized(tree, p);
        }

        @Override
        public Void visitAssert(AssertTree tree, Void p) {
            wrong(tree, "an assert");
            return super.visitAssert(tree, p);
        }

        @Override
        public Void visitIdentifier(IdentifierTree tree, Void p) {
            if (tree.getName().contentEquals("var") || tree.getName().contentEquals("String")) {
                wrong(tree, "a type that the class does not need: " + tree);
            }
            return super.visitIdentifier(tree, p);
        }

        /** The longest chain of calls, a method's calls of itself left out. */
        void depths() {
            Set<String> own = new TreeSet<>();
            for (Element method : calls.keySet()) {
                int depth = depth(method, 0);
                if (depth > DEEPEST_CALLS) {
                    Check.report(method + " calls " + depth + " deep");
                }
                own.add(method.toString());
            }
            Check.isTrue("no calls found", own.size() > 20);
        }

        private int depth(Element method, int level) {
            int deepest = 0;
            for (Element called : calls.getOrDefault(method, Set.of())) {
                if (called != method && level < 50) {
                    deepest = Math.max(deepest, depth(called, level + 1));
                }
            }
            return deepest + 1;
        }
    }
}
