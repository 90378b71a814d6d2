import com.sun.source.tree.ClassTree;
import com.sun.source.tree.CompilationUnitTree;
import com.sun.source.tree.MethodInvocationTree;
import com.sun.source.tree.MethodTree;
import com.sun.source.tree.NewClassTree;
import com.sun.source.tree.Tree;
import com.sun.source.util.JavacTask;
import com.sun.source.util.TreePath;
import com.sun.source.util.TreePathScanner;
import com.sun.source.util.Trees;
import java.io.IOException;
import java.nio.file.Path;
import java.util.HashSet;
import java.util.LinkedHashMap;
import java.util.LinkedHashSet;
import java.util.List;
import java.util.Map;
import java.util.Set;
import javax.lang.model.element.Element;
import javax.lang.model.element.ExecutableElement;
import javax.lang.model.element.Modifier;
import javax.lang.model.element.TypeElement;
import javax.lang.model.util.ElementFilter;
import javax.tools.JavaCompiler;
import javax.tools.StandardJavaFileManager;
import javax.tools.ToolProvider;

/**
 * Those rules of LANGUAGE.md that are of classes and of who calls whom (1, 2, 4, 5, 8, 11), as the
 * compiler reads the class's file; run from the project's folder.
 */
public final class CallsTest {

    private static final Path FILE = Path.of("src/main/java/BiteFirst.java");
    private static final int MOST_DEEP = 8, MOST_PARAMETERS = 7, MOST_CLASSES = 12, MOST_FIELDS = 20;

    /** Rule 4, of what takes no list: a class, and its methods. */
    private static final Map<String, Set<String>> LIBRARY = Map.of(
        "java.lang.String", Set.of("length", "charAt", "isEmpty", "equals", "indexOf", "substring", "toCharArray", "<init>"),
        "java.lang.StringBuilder", Set.of("append", "charAt", "setCharAt", "setLength", "deleteCharAt", "reverse",
                "length", "toString", "<init>"),
        "java.lang.Integer", Set.of("compare", "max", "min", "bitCount", "signum", "numberOfTrailingZeros",
                "numberOfLeadingZeros", "highestOneBit", "lowestOneBit"),
        "java.lang.Long", Set.of("compare", "max", "min", "bitCount", "signum", "numberOfTrailingZeros",
                "numberOfLeadingZeros", "highestOneBit", "lowestOneBit"),
        "java.lang.Math", Set.of("max", "min", "abs", "floorDiv", "floorMod"),
        "java.lang.System", Set.of("arraycopy"),
        "java.util.Arrays", Set.of("copyOf", "copyOfRange", "fill"));

    private final Map<ExecutableElement, Set<ExecutableElement>> calls = new LinkedHashMap<>();
    private final Set<TypeElement> classes = new LinkedHashSet<>();

    public static void main(String[] args) throws IOException {
        CallsTest test = new CallsTest();
        test.read();
        Due.isTrue("methods were found", test.calls.size() > 60);
        test.classesAreFewAndStatic();
        test.methodsAreNamedAndTake();
        test.libraryIsListed();
        test.recursionIsPrivate();
        test.callsGoEightDeep();
        Due.end("CallsTest");
    }

    private void read() throws IOException {
        JavaCompiler compiler = ToolProvider.getSystemJavaCompiler();
        try (StandardJavaFileManager files = compiler.getStandardFileManager(null, null, null)) {
            JavacTask task = (JavacTask) compiler.getTask(null, files, null, List.of("-proc:none"), null,
                    files.getJavaFileObjects(FILE));
            Iterable<? extends CompilationUnitTree> units = task.parse();
            task.analyze();
            for (CompilationUnitTree unit : units) {
                new Reader(Trees.instance(task)).scan(unit, null);
            }
        }
    }

    /** Notes each class, and for each method whom it calls; what fields call, constructors do. */
    private final class Reader extends TreePathScanner<Void, Void> {
        private final Trees trees;
        private Set<ExecutableElement> called = new LinkedHashSet<>();

        Reader(Trees trees) {
            this.trees = trees;
        }

        @Override
        public Void visitClass(ClassTree tree, Void none) {
            TypeElement one = (TypeElement) trees.getElement(getCurrentPath());
            Set<ExecutableElement> outer = called;
            Set<ExecutableElement> byFields = new LinkedHashSet<>();
            called = byFields;
            classes.add(one);
            super.visitClass(tree, none);
            for (ExecutableElement constructor : ElementFilter.constructorsIn(one.getEnclosedElements())) {
                calls.computeIfAbsent(constructor, c -> new LinkedHashSet<>()).addAll(byFields);
            }
            called = outer;
            return null;
        }

        @Override
        public Void visitMethod(MethodTree tree, Void none) {
            Set<ExecutableElement> outer = called;
            called = new LinkedHashSet<>();
            calls.put((ExecutableElement) trees.getElement(getCurrentPath()), called);
            super.visitMethod(tree, none);
            called = outer;
            return null;
        }

        @Override
        public Void visitMethodInvocation(MethodInvocationTree tree, Void none) {
            note(tree.getMethodSelect());
            return super.visitMethodInvocation(tree, none);
        }

        @Override
        public Void visitNewClass(NewClassTree tree, Void none) {
            note(tree);
            return super.visitNewClass(tree, none);
        }

        private void note(Tree tree) {
            Element element = trees.getElement(new TreePath(getCurrentPath(), tree));
            if (element instanceof ExecutableElement method) {
                called.add(method);
            }
        }
    }

    private static String told(ExecutableElement method) {
        return method.getEnclosingElement().getSimpleName() + "." + method.getSimpleName();
    }

    private void classesAreFewAndStatic() {
        Due.isTrue("rule 11: " + classes.size() + " classes", classes.size() <= MOST_CLASSES);
        for (TypeElement one : classes) {
            boolean inside = one.getEnclosingElement() instanceof TypeElement;
            Due.isTrue("rule 2: static inside: " + one, !inside || one.getModifiers().contains(Modifier.STATIC));
            Due.isTrue("rule 2: not public inside: " + one, !inside || !one.getModifiers().contains(Modifier.PUBLIC));
            int fields = 0;
            for (Element field : ElementFilter.fieldsIn(one.getEnclosedElements())) {
                boolean isStatic = field.getModifiers().contains(Modifier.STATIC);
                Due.isTrue("rule 5: final, if static: " + one + "." + field,
                        !isStatic || field.getModifiers().contains(Modifier.FINAL));
                fields += isStatic ? 0 : 1;
            }
            Due.isTrue("rule 11: " + fields + " fields: " + one, fields <= MOST_FIELDS);
        }
    }

    private void methodsAreNamedAndTake() {
        Set<String> face = new HashSet<>();
        for (ExecutableElement method : calls.keySet()) {
            if (method.getModifiers().contains(Modifier.PUBLIC)) {
                face.add(method.getSimpleName().toString());
            }
        }
        for (ExecutableElement method : calls.keySet()) {
            boolean isPublic = method.getModifiers().contains(Modifier.PUBLIC);
            boolean named = method.getSimpleName().contentEquals("<init>") || !face.contains(method.getSimpleName().toString());
            Due.isTrue("rule 1: a name of its own: " + told(method), isPublic || named);
            Due.isTrue("rule 11: parameters of " + told(method), method.getParameters().size() <= MOST_PARAMETERS);
        }
    }

    private void libraryIsListed() {
        for (Map.Entry<ExecutableElement, Set<ExecutableElement>> entry : calls.entrySet()) {
            for (ExecutableElement callee : entry.getValue()) {
                Element of = callee.getEnclosingElement();
                // An object's own super() is written by the compiler.
                boolean listed = calls.containsKey(callee) || of.toString().equals("java.lang.Object")
                        || LIBRARY.getOrDefault(of.toString(), Set.of()).contains(callee.getSimpleName().toString())
                        || of instanceof TypeElement && classes.contains(of);
                Due.isTrue("rule 4: " + told(entry.getKey()) + " calls " + told(callee), listed);
            }
        }
    }

    private boolean comesBack(ExecutableElement from, ExecutableElement to, Set<ExecutableElement> seen) {
        for (ExecutableElement callee : calls.getOrDefault(from, Set.of())) {
            if (callee.equals(to) || seen.add(callee) && comesBack(callee, to, seen)) {
                return true;
            }
        }
        return false;
    }

    private void recursionIsPrivate() {
        for (ExecutableElement method : calls.keySet()) {
            boolean recursive = comesBack(method, method, new HashSet<>());
            Due.isTrue("rule 8: " + told(method), !recursive || method.getModifiers().contains(Modifier.PRIVATE));
        }
    }

    /** Read at its strictest: the calls of a recursion count, too, but no method counts twice. */
    private void callsGoEightDeep() {
        for (ExecutableElement method : calls.keySet()) {
            String longest = longest(method, new LinkedHashSet<>());
            Due.isTrue("rule 11: " + longest, longest.split(" > ").length <= MOST_DEEP);
        }
    }

    private String longest(ExecutableElement from, Set<ExecutableElement> open) {
        String most = "";
        open.add(from);
        for (ExecutableElement callee : calls.get(from)) {
            if (calls.containsKey(callee) && !open.contains(callee)) {
                String behind = " > " + longest(callee, open);
                most = behind.split(" > ").length > most.split(" > ").length ? behind : most;
            }
        }
        open.remove(from);
        return told(from) + most;
    }
}
