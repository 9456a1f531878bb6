import com.sun.source.tree.ClassTree;
import com.sun.source.tree.CompilationUnitTree;
import com.sun.source.tree.MethodInvocationTree;
import com.sun.source.tree.MethodTree;
import com.sun.source.tree.NewClassTree;
import com.sun.source.util.JavacTask;
import com.sun.source.util.TreePathScanner;
import com.sun.source.util.Trees;
import java.nio.file.Path;
import java.util.ArrayDeque;
import java.util.Deque;
import java.util.List;
import java.util.Map;
import java.util.Set;
import java.util.TreeMap;
import java.util.TreeSet;
import javax.lang.model.element.Element;
import javax.lang.model.element.ElementKind;
import javax.lang.model.element.ExecutableElement;
import javax.lang.model.element.Modifier;
import javax.tools.JavaCompiler;
import javax.tools.StandardJavaFileManager;
import javax.tools.ToolProvider;

/** Who calls whom in the class, as the compiler sees it: rules 4, 8 and 11 of LANGUAGE.md. */
public final class CallsTest {
    private static final Path MAIN = Path.of("src/main/java/RowChildren.java");
    private static final Set<String> LIBRARY = Set.of("String.charAt", "String.indexOf", "Integer.bitCount", "Math.max",
            "Math.min", "System.arraycopy");
    private static final int DEEPEST = 8;

    private final Check check = new Check();
    private final Map<String, Set<String>> calls = new TreeMap<>();
    private final Set<String> publicOnes = new TreeSet<>();
    private final Set<String> privateOnes = new TreeSet<>();

    public static void main(String[] args) throws Exception {
        CallsTest test = new CallsTest();
        test.readCalls();
        test.recursion();
        test.depth();
        test.nobodyIsIdle();
        test.check.end();
    }

    private void readCalls() throws Exception {
        check.part("rule 4");
        JavaCompiler compiler = ToolProvider.getSystemJavaCompiler();
        try (StandardJavaFileManager files = compiler.getStandardFileManager(null, null, null)) {
            JavacTask task = (JavacTask) compiler.getTask(null, files, null, List.of("-proc:none"), null,
                    files.getJavaFileObjects(MAIN));
            Iterable<? extends CompilationUnitTree> units = task.parse();
            task.analyze();
            Scanner scanner = new Scanner(Trees.instance(task));
            for (CompilationUnitTree unit : units) {
                scanner.scan(unit, null);
            }
        }
    }

    private final class Scanner extends TreePathScanner<Void, Void> {
        private final Trees trees;
        private final Deque<String> within = new ArrayDeque<>();

        Scanner(Trees trees) {
            this.trees = trees;
        }

        /** What a field starts with is made by the constructor. */
        @Override
        public Void visitClass(ClassTree tree, Void nothing) {
            within.push(tree.getSimpleName() + ".<init>");
            super.visitClass(tree, nothing);
            within.pop();
            return null;
        }

        @Override
        public Void visitMethod(MethodTree tree, Void nothing) {
            Element element = trees.getElement(getCurrentPath());
            within.push(nameOf(element));
            calls.computeIfAbsent(within.peek(), name -> new TreeSet<>());
            if (element.getModifiers().contains(Modifier.PUBLIC)) {
                publicOnes.add(within.peek());
            }
            if (element.getModifiers().contains(Modifier.PRIVATE)) {
                privateOnes.add(within.peek());
            }
            super.visitMethod(tree, nothing);
            within.pop();
            return null;
        }

        @Override
        public Void visitMethodInvocation(MethodInvocationTree tree, Void nothing) {
            note(trees.getElement(getCurrentPath()));
            return super.visitMethodInvocation(tree, nothing);
        }

        @Override
        public Void visitNewClass(NewClassTree tree, Void nothing) {
            note(trees.getElement(getCurrentPath()));
            return super.visitNewClass(tree, nothing);
        }

        private void note(Element called) {
            Element top = called.getEnclosingElement();
            while (top.getEnclosingElement().getKind() != ElementKind.PACKAGE) {
                top = top.getEnclosingElement();
            }
            if (top.getSimpleName().contentEquals("RowChildren")) {
                calls.computeIfAbsent(within.peek(), name -> new TreeSet<>()).add(nameOf(called));
            } else if (called.getKind() != ElementKind.CONSTRUCTOR || !nameOf(called).equals("Object.<init>")) {
                check.due(within.peek() + " may call " + nameOf(called), true, LIBRARY.contains(nameOf(called)));
            }
        }
    }

    private static String nameOf(Element method) {
        return method.getEnclosingElement().getSimpleName() + "." + ((ExecutableElement) method).getSimpleName();
    }

    private Set<String> reachedFrom(String start) {
        Set<String> reached = new TreeSet<>();
        Deque<String> open = new ArrayDeque<>(calls.getOrDefault(start, Set.of()));
        while (!open.isEmpty()) {
            String next = open.pop();
            if (reached.add(next)) {
                open.addAll(calls.getOrDefault(next, Set.of()));
            }
        }
        return reached;
    }

    private void recursion() {
        check.part("rule 8");
        for (String name : calls.keySet()) {
            check.due(name + " may call itself", true, !reachedFrom(name).contains(name) || privateOnes.contains(name));
        }
    }

    /** The method and those that call it again and are called by it. */
    private Set<String> roundOf(String name) {
        Set<String> round = new TreeSet<>(Set.of(name));
        for (String other : reachedFrom(name)) {
            if (reachedFrom(other).contains(name)) {
                round.add(other);
            }
        }
        return round;
    }

    /** Those that call one another in a recursion are counted once each. */
    private int depthOf(String name) {
        Set<String> round = roundOf(name);
        int deepest = 0;
        for (String one : round) {
            for (String called : calls.getOrDefault(one, Set.of())) {
                if (!round.contains(called)) {
                    deepest = Math.max(deepest, depthOf(called));
                }
            }
        }
        return deepest + round.size();
    }

    private void depth() {
        check.part("rule 11");
        for (String name : publicOnes) {
            int depth = depthOf(name);
            check.due(name + " goes " + depth + " deep", true, depth <= DEEPEST);
        }
    }

    private void nobodyIsIdle() {
        check.part("the class");
        Set<String> used = new TreeSet<>(publicOnes);
        for (String name : publicOnes) {
            used.addAll(reachedFrom(name));
        }
        for (String name : calls.keySet()) {
            check.due(name + " is called", true, used.contains(name));
        }
        check.due("public constructor and methods", 39, publicOnes.size());
    }
}
