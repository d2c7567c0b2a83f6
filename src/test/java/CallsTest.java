import com.sun.source.tree.ClassTree;
import com.sun.source.tree.MethodInvocationTree;
import com.sun.source.tree.MethodTree;
import com.sun.source.tree.NewClassTree;
import com.sun.source.tree.Tree;
import com.sun.source.util.JavacTask;
import com.sun.source.util.TreePathScanner;
import com.sun.source.util.Trees;
import java.nio.file.Path;
import java.util.ArrayList;
import java.util.LinkedHashMap;
import java.util.LinkedHashSet;
import java.util.List;
import java.util.Map;
import java.util.Set;
import javax.lang.model.element.Element;
import javax.lang.model.element.ElementKind;
import javax.lang.model.element.Modifier;
import javax.lang.model.element.TypeElement;
import javax.tools.JavaCompiler;
import javax.tools.StandardJavaFileManager;
import javax.tools.ToolProvider;

/** Rules of LANGUAGE.md that the program's tree shows: who calls whom, how deep, what a class holds, what it uses. */
public final class CallsTest {
    private static final int MOST_DEEP = 8;
    private static final int MOST_FIELDS = 20;
    private static final int MOST_CLASSES = 12;
    /** What the program uses of rule 4's library; whatever else it comes to use is to be held against that rule. */
    private static final Set<String> LIBRARY = Set.of("java.lang.String.length", "java.lang.String.charAt", "java.lang.System.arraycopy",
        "java.util.Arrays.fill", "java.util.Arrays.copyOf", "java.lang.Math.max", "java.lang.Math.min", "java.lang.Object.<init>");
    /** The only methods that may come to themselves again: they carry their depth (rule 8). */
    private static final Set<String> RECURSIVE = Set.of("Reader.readEither", "Reader.readBoth", "Reader.readClaim");

    private static final Map<String, Set<String>> CALLS = new LinkedHashMap<>();
    private static final Set<String> OUTSIDE = new LinkedHashSet<>();

    public static void main(String[] args) throws Exception {
        JavaCompiler compiler = ToolProvider.getSystemJavaCompiler();
        try (StandardJavaFileManager files = compiler.getStandardFileManager(null, null, null)) {
            JavacTask task = (JavacTask) compiler.getTask(null, files, null, List.of("-proc:none"), null,
                files.getJavaFileObjects(Path.of("src/main/java/FarFromAnybody.java")));
            var units = task.parse();
            task.analyze();
            Scanner scanner = new Scanner(Trees.instance(task));
            scanner.scan(units, null);
            judge(scanner);
        }
        Check.end();
    }

    private static void judge(Scanner scanner) {
        Check.about("LANGUAGE.md, the program's tree");
        Check.due("classes at most twelve: " + scanner.classes, scanner.classes <= MOST_CLASSES, true);
        Check.due("methods are seen", CALLS.size() > 50, true);
        for (String name : OUTSIDE) {
            Check.due("calls of " + name + " outside the library", LIBRARY.contains(name), true);
        }
        for (String method : CALLS.keySet()) {
            boolean again = reached(method).contains(method);
            Check.due(method + " comes to itself", again, again && RECURSIVE.contains(method));
        }
        for (String method : CALLS.keySet()) {
            List<String> chain = deepest(method, new ArrayList<>());
            Check.due("calls at most eight deep: " + chain, chain.size() <= MOST_DEEP, true);
        }
    }

    /** All methods that a method's calls lead to. */
    private static Set<String> reached(String method) {
        Set<String> all = new LinkedHashSet<>();
        List<String> open = new ArrayList<>(CALLS.get(method));
        while (!open.isEmpty()) {
            String next = open.remove(open.size() - 1);
            if (all.add(next)) {
                open.addAll(CALLS.get(next));
            }
        }
        return all;
    }

    /** The longest chain of calls from a method on in which none stands twice. */
    private static List<String> deepest(String method, List<String> above) {
        List<String> longest = new ArrayList<>();
        above.add(method);
        for (String next : CALLS.get(method)) {
            if (!above.contains(next)) {
                List<String> chain = deepest(next, above);
                longest = chain.size() > longest.size() ? chain : longest;
            }
        }
        above.remove(above.size() - 1);
        List<String> all = new ArrayList<>();
        all.add(method);
        all.addAll(longest);
        return all;
    }

    private static final class Scanner extends TreePathScanner<Void, Void> {
        private final Trees trees;
        private String method;
        int classes;

        Scanner(Trees trees) {
            this.trees = trees;
        }

        @Override
        public Void visitClass(ClassTree tree, Void none) {
            classes++;
            int fields = 0;
            for (Tree member : tree.getMembers()) {
                Element element = trees.getElement(trees.getPath(getCurrentPath().getCompilationUnit(), member));
                boolean isStatic = element.getModifiers().contains(Modifier.STATIC);
                if (element.getKind() == ElementKind.FIELD && !isStatic) {
                    fields++;
                }
                if (element instanceof TypeElement) {
                    Check.due("the class " + element + " inside is static", isStatic, true);
                }
            }
            Check.due("fields of " + tree.getSimpleName() + " at most twenty: " + fields, fields <= MOST_FIELDS, true);
            return super.visitClass(tree, none);
        }

        @Override
        public Void visitMethod(MethodTree tree, Void none) {
            method = nameOf(trees.getElement(getCurrentPath()));
            Check.due("one method alone is called " + method, CALLS.containsKey(method), false);
            CALLS.put(method, new LinkedHashSet<>());
            return super.visitMethod(tree, none);
        }

        @Override
        public Void visitMethodInvocation(MethodInvocationTree tree, Void none) {
            note(trees.getElement(getCurrentPath()));
            return super.visitMethodInvocation(tree, none);
        }

        @Override
        public Void visitNewClass(NewClassTree tree, Void none) {
            note(trees.getElement(getCurrentPath()));
            return super.visitNewClass(tree, none);
        }

        private void note(Element called) {
            TypeElement owner = (TypeElement) called.getEnclosingElement();
            if (owner.getQualifiedName().toString().startsWith("FarFromAnybody")) {
                CALLS.get(method).add(nameOf(called));
            } else {
                OUTSIDE.add(owner.getQualifiedName() + "." + called.getSimpleName());
            }
        }

        private static String nameOf(Element method) {
            return method.getEnclosingElement().getSimpleName() + "." + method.getSimpleName();
        }
    }
}
