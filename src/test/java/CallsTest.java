import com.sun.source.tree.ForLoopTree;
import com.sun.source.tree.MethodInvocationTree;
import com.sun.source.tree.MethodTree;
import com.sun.source.tree.NewClassTree;
import com.sun.source.tree.Tree;
import com.sun.source.tree.WhileLoopTree;
import com.sun.source.util.JavacTask;
import com.sun.source.util.TreePathScanner;
import com.sun.source.util.Trees;
import java.io.IOException;
import java.nio.file.Path;
import java.util.List;
import java.util.Map;
import java.util.Set;
import java.util.TreeMap;
import java.util.TreeSet;
import javax.lang.model.element.Element;
import javax.tools.JavaCompiler;
import javax.tools.ToolProvider;

/** What of ../shared/LANGUAGE.md the compiler knows of the class: who calls whom, and what of the library. */
public final class CallsTest {
    private static final Check CHECK = new Check();
    private static final Path SOURCE = Path.of("src/main/java/VineGarden.java");
    private static final int DEEPEST = 8;
    private static final Set<String> LIBRARY = Set.of(
            "java.util.ArrayList.ArrayList()", "java.util.ArrayList.add(E)", "java.util.ArrayList.add(int,E)",
            "java.util.ArrayList.get(int)", "java.util.ArrayList.set(int,E)", "java.util.ArrayList.remove(int)",
            "java.util.ArrayList.size()", "java.util.ArrayList.isEmpty()", "java.util.ArrayList.clear()",
            "java.util.Arrays.fill(int[],int)", "java.util.Arrays.fill(long[],long)",
            "java.lang.System.arraycopy(java.lang.Object,int,java.lang.Object,int,int)",
            "java.lang.Integer.bitCount(int)", "java.lang.Long.bitCount(long)",
            "java.lang.Math.min(int,int)", "java.lang.Math.max(int,int)",
            // What the compiler puts ahead of a constructor's body.
            "java.lang.Object.Object()");
    private static final Set<Tree.Kind> BARRED = Set.of(Tree.Kind.THROW, Tree.Kind.TRY, Tree.Kind.CATCH,
            Tree.Kind.SYNCHRONIZED, Tree.Kind.ASSERT, Tree.Kind.LAMBDA_EXPRESSION, Tree.Kind.MEMBER_REFERENCE,
            Tree.Kind.BINDING_PATTERN, Tree.Kind.STRING_LITERAL,
            Tree.Kind.FLOAT_LITERAL, Tree.Kind.DOUBLE_LITERAL);

    public static void main(String[] args) throws IOException {
        Calls calls = read();
        CHECK.holds("there are methods: " + calls.byMethod.size(), calls.byMethod.size() > 32);
        for (String method : calls.byMethod.keySet()) {
            int deep = depth(method, calls.byMethod, new TreeSet<>());
            CHECK.holds(method + " goes at most eight deep, without recursion: " + deep, deep <= DEEPEST);
        }
        CHECK.end();
    }

    private static Calls read() throws IOException {
        JavaCompiler compiler = ToolProvider.getSystemJavaCompiler();
        try (var files = compiler.getStandardFileManager(null, null, null)) {
            JavacTask task = (JavacTask) compiler.getTask(null, files, null, List.of("-proc:none"), null,
                    files.getJavaFileObjects(SOURCE));
            var units = task.parse();
            task.analyze();
            Calls calls = new Calls(Trees.instance(task));
            calls.scan(units, null);
            return calls;
        }
    }

    /** How many methods are open at once at most; far too many, if one calls itself. */
    private static int depth(String method, Map<String, Set<String>> byMethod, Set<String> open) {
        if (!open.add(method)) {
            return 1000;
        }
        int deepest = 0;
        for (String called : byMethod.getOrDefault(method, Set.of())) {
            deepest = Math.max(deepest, depth(called, byMethod, open));
        }
        open.remove(method);
        return deepest + 1;
    }

    private static final class Calls extends TreePathScanner<Void, Void> {
        final Map<String, Set<String>> byMethod = new TreeMap<>();
        private final Trees trees;
        private String method = "";

        Calls(Trees trees) {
            this.trees = trees;
        }

        private static String name(Element element) {
            String called = element.getSimpleName().contentEquals("<init>")
                    ? element.toString() : element.getSimpleName() + element.toString().replaceFirst("^[^(]*", "");
            return element.getEnclosingElement() + "." + called;
        }

        private void calls(Element element) {
            String called = name(element);
            if (called.startsWith("VineGarden")) {
                byMethod.computeIfAbsent(method, m -> new TreeSet<>()).add(called);
            } else {
                CHECK.holds(called + " is listed", LIBRARY.contains(called.replace("<E>", "")));
            }
        }

        @Override
        public Void scan(Tree tree, Void nothing) {
            CHECK.holds("no " + tree, tree == null || !BARRED.contains(tree.getKind()));
            return super.scan(tree, nothing);
        }

        @Override
        public Void visitMethod(MethodTree tree, Void nothing) {
            method = name(trees.getElement(getCurrentPath()));
            byMethod.computeIfAbsent(method, m -> new TreeSet<>());
            return super.visitMethod(tree, nothing);
        }

        @Override
        public Void visitMethodInvocation(MethodInvocationTree tree, Void nothing) {
            calls(trees.getElement(getCurrentPath()));
            return super.visitMethodInvocation(tree, nothing);
        }

        @Override
        public Void visitNewClass(NewClassTree tree, Void nothing) {
            CHECK.holds("no anonymous class in " + method, tree.getClassBody() == null);
            calls(trees.getElement(getCurrentPath()));
            return super.visitNewClass(tree, nothing);
        }

        @Override
        public Void visitForLoop(ForLoopTree tree, Void nothing) {
            boolean hasEnd = tree.getCondition() != null && !tree.getUpdate().isEmpty();
            CHECK.holds("a loop of " + method + " has an end", hasEnd);
            return super.visitForLoop(tree, nothing);
        }

        @Override
        public Void visitWhileLoop(WhileLoopTree tree, Void nothing) {
            boolean isForever = tree.getCondition().toString().equals("(true)");
            CHECK.holds("a loop of " + method + " has an end", !isForever);
            return super.visitWhileLoop(tree, nothing);
        }
    }
}
