import com.sun.source.tree.CompilationUnitTree;
import com.sun.source.tree.MethodInvocationTree;
import com.sun.source.tree.MethodTree;
import com.sun.source.tree.NewArrayTree;
import com.sun.source.tree.NewClassTree;
import com.sun.source.util.JavacTask;
import com.sun.source.util.TreePathScanner;
import com.sun.source.util.Trees;
import java.nio.file.Path;
import java.util.ArrayList;
import java.util.HashMap;
import java.util.LinkedHashSet;
import java.util.List;
import java.util.Map;
import java.util.Set;
import java.util.TreeSet;
import javax.lang.model.element.Element;
import javax.tools.JavaCompiler;
import javax.tools.StandardJavaFileManager;
import javax.tools.ToolProvider;

/** Which method calls which (LANGUAGE.md 8, 11 and 12): how deep calls go, what calls itself, where things are made. */
public final class CallsTest extends Towns {
    private static final int DEEPEST = 8;
    private static final Set<String> GUARDED = Set.of("Reader.readSum", "Reader.readProduct", "Reader.readOne",
            "Visits.tryOrders", "Finder.tries");

    private static final Map<String, Set<String>> calls = new HashMap<>();
    private static final Set<String> makers = new TreeSet<>();
    private static List<String> deepest = new ArrayList<>();
    private static final Set<String> again = new TreeSet<>();

    public static void main(String[] args) throws Exception {
        about = "SecondLeft.java";
        readSource("src/main/java/SecondLeft.java");
        due("its methods are found", calls.size() >= 100, true);
        for (String method : calls.keySet()) {
            follow(method, new ArrayList<>());
        }
        due("the deepest are " + deepest, deepest.size() <= DEEPEST, true);
        due("those that call themselves, " + again + ", are those with a guard", again.equals(GUARDED), true);
        makers.removeIf(method -> method.endsWith(".<init>"));
        due("what makes objects, " + makers + ", is asRead alone", makers.equals(Set.of("Reader.asRead")), true);
        endOfTest("calls go as deep as they may");
    }

    private static void readSource(String file) throws Exception {
        JavaCompiler compiler = ToolProvider.getSystemJavaCompiler();
        try (StandardJavaFileManager files = compiler.getStandardFileManager(null, null, null)) {
            JavacTask task = (JavacTask) compiler.getTask(null, files, null, null, null,
                    files.getJavaFileObjects(Path.of(file)));
            Iterable<? extends CompilationUnitTree> units = task.parse();
            task.analyze();
            for (CompilationUnitTree unit : units) {
                new Calls(Trees.instance(task)).scan(unit, null);
            }
        }
    }

    /** Goes on to all that a method calls, but for what stands open already: that is recursion. */
    private static void follow(String method, List<String> open) {
        if (!calls.containsKey(method)) {
            return;
        }
        if (open.contains(method)) {
            again.addAll(open.subList(open.indexOf(method), open.size()));
            return;
        }
        open.add(method);
        if (open.size() > deepest.size()) {
            deepest = new ArrayList<>(open);
        }
        for (String called : calls.get(method)) {
            follow(called, open);
        }
        open.remove(open.size() - 1);
    }

    /** Every method of the file with what it calls, constructors too, and those with a new in them. */
    private static final class Calls extends TreePathScanner<Void, String> {
        private final Trees trees;

        Calls(Trees trees) {
            this.trees = trees;
        }

        private String nameHere() {
            Element method = trees.getElement(getCurrentPath());
            return method.getEnclosingElement().getSimpleName() + "." + method.getSimpleName();
        }

        private void noteCall(String in) {
            if (in != null) {
                calls.get(in).add(nameHere());
            }
        }

        private void noteNew(String in) {
            makers.add(in == null ? "outside of all methods" : in);
        }

        @Override
        public Void visitMethod(MethodTree tree, String in) {
            String name = nameHere();
            calls.putIfAbsent(name, new LinkedHashSet<>());
            return super.visitMethod(tree, name);
        }

        @Override
        public Void visitMethodInvocation(MethodInvocationTree tree, String in) {
            noteCall(in);
            return super.visitMethodInvocation(tree, in);
        }

        @Override
        public Void visitNewClass(NewClassTree tree, String in) {
            noteCall(in);
            noteNew(in);
            return super.visitNewClass(tree, in);
        }

        @Override
        public Void visitNewArray(NewArrayTree tree, String in) {
            noteNew(in);
            return super.visitNewArray(tree, in);
        }
    }
}
