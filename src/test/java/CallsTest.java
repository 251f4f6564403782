import com.sun.source.tree.ClassTree;
import com.sun.source.tree.CompilationUnitTree;
import com.sun.source.tree.MethodInvocationTree;
import com.sun.source.tree.MethodTree;
import com.sun.source.tree.NewClassTree;
import com.sun.source.tree.Tree;
import com.sun.source.util.JavacTask;
import com.sun.source.util.TreePath;
import com.sun.source.util.TreePathScanner;
import com.sun.source.util.Trees;
import java.io.File;
import java.util.List;
import java.util.Map;
import java.util.Set;
import java.util.TreeMap;
import java.util.TreeSet;
import javax.lang.model.element.Element;
import javax.tools.JavaCompiler;
import javax.tools.StandardJavaFileManager;
import javax.tools.ToolProvider;

/** Rules 8 and 11 of ../shared/LANGUAGE.md: which method of the program calls which, and how deep calls go. */
public final class CallsTest {
    private static final String PROGRAM = "src/main/java/MendedWebs.java";

    /** Of each method, by its class and itself, those that it calls. */
    private final Map<String, Set<String>> calls = new TreeMap<>();
    private final Set<String> open = new TreeSet<>();
    private final Set<String> recursive = new TreeSet<>();

    private CallsTest() { }

    private final class Scanner extends TreePathScanner<Void, Trees> {
        private String within = "";

        @Override public Void visitClass(ClassTree tree, Trees trees) {
            String before = within;
            within = "";
            super.visitClass(tree, trees);
            within = before;
            return null;
        }

        @Override public Void visitMethod(MethodTree tree, Trees trees) {
            String before = within;
            within = nameOf(trees.getElement(getCurrentPath()));
            calls.putIfAbsent(within, new TreeSet<>());
            super.visitMethod(tree, trees);
            within = before;
            return null;
        }

        @Override public Void visitMethodInvocation(MethodInvocationTree tree, Trees trees) {
            note(tree, trees);
            return super.visitMethodInvocation(tree, trees);
        }

        @Override public Void visitNewClass(NewClassTree tree, Trees trees) {
            note(tree, trees);
            return super.visitNewClass(tree, trees);
        }

        private void note(Tree tree, Trees trees) {
            Element called = trees.getElement(new TreePath(getCurrentPath(), tree));
            if (!within.isEmpty() && called != null) calls.get(within).add(nameOf(called));
        }
    }

    private static String nameOf(Element method) {
        return method.getEnclosingElement() + "." + method;
    }

    private void read() throws java.io.IOException {
        JavaCompiler compiler = ToolProvider.getSystemJavaCompiler();
        try (StandardJavaFileManager files = compiler.getStandardFileManager(null, null, null)) {
            JavacTask task = (JavacTask) compiler.getTask(null, files, null, List.of("-proc:none"), null,
                files.getJavaFileObjects(new File(PROGRAM)));
            Iterable<? extends CompilationUnitTree> units = task.parse();
            task.analyze();
            for (CompilationUnitTree unit : units) new Scanner().scan(unit, Trees.instance(task));
        }
    }

    /** How many calls stand open at most in this one, itself and those of the library among them; each once. */
    private int depth(String method) {
        int most = 0;
        open.add(method);
        for (String called : calls.getOrDefault(method, Set.of())) {
            if (open.contains(called)) recursive.add(called);
            else most = Math.max(most, depth(called));
        }
        open.remove(method);
        return most + 1;
    }

    public static void main(String[] args) throws java.io.IOException {
        CallsTest test = new CallsTest();
        test.read();
        Checks.due("methods were found", test.calls.size() > 150 ? 1 : 0, 1);
        int faces = 0;
        for (String method : test.calls.keySet()) {
            int depth = test.depth(method);
            Checks.due("rule 11: at most eight deep: " + method + ": " + depth, depth <= 8 ? 1 : 0, 1);
            if (method.startsWith("MendedWebs.")) faces++;
        }
        Checks.due("the public ones were found", faces > 33 ? 1 : 0, 1);
        Checks.due("least was looked at", test.depth("MendedWebs.least(int,int)") > 5 ? 1 : 0, 1);
        Checks.due("rule 8: the only recursion: " + test.recursive, test.recursive.equals(Set.of("MendedWebs.Mender.grow(int,int,int)",
            "MendedWebs.Mender.tryValues(int,int,int,int)")) ? 1 : 0, 1);
        Checks.close();
    }
}
