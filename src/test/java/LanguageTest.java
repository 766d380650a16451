import com.sun.source.tree.AssertTree;
import com.sun.source.tree.BinaryTree;
import com.sun.source.tree.ClassTree;
import com.sun.source.tree.CompilationUnitTree;
import com.sun.source.tree.InstanceOfTree;
import com.sun.source.tree.LambdaExpressionTree;
import com.sun.source.tree.MemberReferenceTree;
import com.sun.source.tree.MethodInvocationTree;
import com.sun.source.tree.MethodTree;
import com.sun.source.tree.NewArrayTree;
import com.sun.source.tree.NewClassTree;
import com.sun.source.tree.SynchronizedTree;
import com.sun.source.tree.ThrowTree;
import com.sun.source.tree.Tree;
import com.sun.source.tree.TryTree;
import com.sun.source.tree.TypeCastTree;
import com.sun.source.tree.VariableTree;
import com.sun.source.util.JavacTask;
import com.sun.source.util.TreePath;
import com.sun.source.util.TreePathScanner;
import com.sun.source.util.Trees;
import java.nio.file.Path;
import java.util.ArrayList;
import java.util.List;
import java.util.Map;
import java.util.Set;
import java.util.TreeMap;
import java.util.TreeSet;
import javax.lang.model.element.Element;
import javax.lang.model.element.Modifier;
import javax.lang.model.type.TypeMirror;
import javax.tools.JavaCompiler;
import javax.tools.StandardJavaFileManager;
import javax.tools.ToolProvider;

/** The rules of LANGUAGE.md that need the class as the compiler sees it: which library it calls, how deep calls go. */
public final class LanguageTest {
    /** Rule 4, as far as the class uses it; another function that the rule lists may be put here. */
    private static final Set<String> LIBRARY = Set.of(
        "java.lang.String.length", "java.lang.String.charAt",
        "java.lang.Integer.bitCount",
        "java.lang.Math.max", "java.lang.Math.min", "java.lang.Math.floorDiv", "java.lang.Math.floorMod",
        "java.lang.System.arraycopy", "java.util.Arrays.fill");
    private static final Set<String> NUMBERS = Set.of("int", "long", "short", "byte", "char", "boolean");
    private static final Set<String> CONSTANTS = Set.of("int", "long", "boolean", "char", "java.lang.String",
        "int[]", "long[]", "char[]", "byte[]");
    private static final int DEEPEST = 8;

    private final Map<String, Set<String>> calls = new TreeMap<>();
    private final Trees trees;

    private LanguageTest(Trees trees) {
        this.trees = trees;
    }

    public static void main(String[] args) throws Exception {
        Path file = Path.of(System.getProperty("greyroute.root", "."), "src/main/java/GreyRoute.java");
        JavaCompiler compiler = ToolProvider.getSystemJavaCompiler();
        try (StandardJavaFileManager files = compiler.getStandardFileManager(null, null, null)) {
            JavacTask task = (JavacTask) compiler.getTask(null, files, null, List.of("-proc:none"), null, files.getJavaFileObjects(file));
            Iterable<? extends CompilationUnitTree> units = task.parse();
            task.analyze();
            LanguageTest test = new LanguageTest(Trees.instance(task));
            for (CompilationUnitTree unit : units) {
                test.new Look().scan(unit, null);
            }
            test.checkDepth();
        }
        Bench.finish();
    }

    private static void never(String what) {
        Bench.dueText("the class", what, "nothing such");
    }

    /** What stands in the class, sign by sign. */
    private final class Look extends TreePathScanner<Void, Void> {
        private Element elementOf(Tree tree) {
            return trees.getElement(new TreePath(getCurrentPath(), tree));
        }

        private String callerName() {
            for (TreePath path = getCurrentPath(); path != null; path = path.getParentPath()) {
                if (path.getLeaf() instanceof MethodTree) {
                    return nameOf(trees.getElement(path));
                }
            }
            return "a field";
        }

        private void note(Element called) {
            String name = nameOf(called);
            calls.computeIfAbsent(callerName(), k -> new TreeSet<>()).add(name);
            if (name.startsWith("java")) {
                Bench.due("rule 4 lists " + name, LIBRARY.contains(name), true);
            }
        }

        @Override
        public Void visitMethodInvocation(MethodInvocationTree tree, Void none) {
            Element called = elementOf(tree.getMethodSelect());
            // each constructor begins with a call of Object's, which is nobody's writing
            if (!nameOf(called).equals("java.lang.Object.<init>")) {
                note(called);
            }
            return super.visitMethodInvocation(tree, none);
        }

        @Override
        public Void visitNewClass(NewClassTree tree, Void none) {
            note(trees.getElement(getCurrentPath()));
            Bench.due("rule 2: a class without a name", tree.getClassBody() != null, false);
            return super.visitNewClass(tree, none);
        }

        @Override
        public Void visitMethod(MethodTree tree, Void none) {
            calls.computeIfAbsent(nameOf(trees.getElement(getCurrentPath())), k -> new TreeSet<>());
            Bench.due("rule 11: parameters of " + tree.getName(), tree.getParameters().size() <= 7, true);
            return super.visitMethod(tree, none);
        }

        @Override
        public Void visitVariable(VariableTree tree, Void none) {
            Element variable = trees.getElement(getCurrentPath());
            TypeMirror type = variable.asType();
            Bench.due("rule 3: " + tree.getName() + " is of " + type, isGoodType(type.toString()), true);
            if (variable.getModifiers().contains(Modifier.STATIC)) {
                Bench.due("rule 5: " + tree.getName() + " is final", variable.getModifiers().contains(Modifier.FINAL), true);
                Bench.due("rule 5: " + tree.getName() + " is of " + type, CONSTANTS.contains(type.toString()), true);
            }
            return super.visitVariable(tree, none);
        }

        @Override
        public Void visitClass(ClassTree tree, Void none) {
            Element it = trees.getElement(getCurrentPath());
            boolean isFace = tree.getSimpleName().contentEquals("GreyRoute");
            Bench.due("rule 2: " + tree.getSimpleName() + " is static", isFace || it.getModifiers().contains(Modifier.STATIC), true);
            Bench.due("rule 1: " + tree.getSimpleName() + " is public", it.getModifiers().contains(Modifier.PUBLIC), isFace);
            return super.visitClass(tree, none);
        }

        @Override
        public Void visitNewArray(NewArrayTree tree, Void none) {
            Bench.due("rule 3: dimensions", tree.getDimensions().size() <= 2, true);
            return super.visitNewArray(tree, none);
        }

        @Override
        public Void visitTypeCast(TypeCastTree tree, Void none) {
            Bench.due("a cast among numbers: " + tree, NUMBERS.contains(tree.getType().toString()), true);
            return super.visitTypeCast(tree, none);
        }

        @Override
        public Void visitBinary(BinaryTree tree, Void none) {
            TypeMirror type = trees.getTypeMirror(getCurrentPath());
            Bench.due("rule 10: a text joined by +: " + tree, type.toString().equals("java.lang.String"), false);
            return super.visitBinary(tree, none);
        }

        @Override
        public Void visitLambdaExpression(LambdaExpressionTree tree, Void none) {
            never("rule 2: " + tree);
            return null;
        }

        @Override
        public Void visitMemberReference(MemberReferenceTree tree, Void none) {
            never("rule 2: " + tree);
            return null;
        }

        @Override
        public Void visitThrow(ThrowTree tree, Void none) {
            never("rule 6: " + tree);
            return null;
        }

        @Override
        public Void visitTry(TryTree tree, Void none) {
            never("rule 6: " + tree);
            return null;
        }

        @Override
        public Void visitSynchronized(SynchronizedTree tree, Void none) {
            never("rule 6: " + tree);
            return null;
        }

        @Override
        public Void visitAssert(AssertTree tree, Void none) {
            never("rule 6: " + tree);
            return null;
        }

        @Override
        public Void visitInstanceOf(InstanceOfTree tree, Void none) {
            never("what it has no need of: " + tree);
            return null;
        }
    }

    private static String nameOf(Element method) {
        return method.getEnclosingElement() + "." + method.getSimpleName();
    }

    private static boolean isGoodType(String type) {
        String one = type.endsWith("[]") ? type.substring(0, type.length() - 2) : type;
        return NUMBERS.contains(one) || one.equals("java.lang.String") || one.startsWith("GreyRoute");
    }

    /** Rule 11: calls that are no recursion; methods that call one another count as one of them. */
    private void checkDepth() {
        Map<String, Integer> deep = new TreeMap<>();
        for (String method : calls.keySet()) {
            int depth = depthOf(method, deep);
            Bench.due("rule 11: calls open at once from " + method + " on, " + depth, depth <= DEEPEST, true);
        }
        Bench.due("rule 11: methods that were seen", calls.size() > 100, true);
    }

    private Set<String> reachedFrom(String method) {
        Set<String> reached = new TreeSet<>();
        List<String> todo = new ArrayList<>(calls.getOrDefault(method, Set.of()));
        while (!todo.isEmpty()) {
            String next = todo.remove(todo.size() - 1);
            if (reached.add(next)) {
                todo.addAll(calls.getOrDefault(next, Set.of()));
            }
        }
        return reached;
    }

    private int depthOf(String method, Map<String, Integer> deep) {
        Integer known = deep.get(method);
        if (known != null) {
            return known;
        }
        Set<String> circle = new TreeSet<>();
        circle.add(method);
        for (String other : reachedFrom(method)) {
            if (reachedFrom(other).contains(method)) {
                circle.add(other);
            }
        }
        int most = 0;
        for (String one : circle) {
            for (String called : calls.getOrDefault(one, Set.of())) {
                if (!circle.contains(called)) {
                    most = Math.max(most, depthOf(called, deep));
                }
            }
        }
        for (String one : circle) {
            deep.put(one, most + 1);
        }
        return most + 1;
    }
}
