import com.sun.source.tree.CompilationUnitTree;
import com.sun.source.tree.ForLoopTree;
import com.sun.source.tree.MethodInvocationTree;
import com.sun.source.tree.MethodTree;
import com.sun.source.tree.NewArrayTree;
import com.sun.source.tree.NewClassTree;
import com.sun.source.tree.Tree;
import com.sun.source.util.JavacTask;
import com.sun.source.util.TreePathScanner;
import com.sun.source.util.Trees;
import java.io.File;
import java.util.ArrayList;
import java.util.List;
import java.util.Map;
import java.util.Set;
import java.util.TreeMap;
import java.util.TreeSet;
import javax.lang.model.element.Element;
import javax.lang.model.element.ElementKind;
import javax.lang.model.element.ExecutableElement;
import javax.lang.model.element.Modifier;
import javax.tools.JavaCompiler;
import javax.tools.StandardJavaFileManager;
import javax.tools.ToolProvider;

/**
 * LANGUAGE.md on calls and on what is made, by the compiler's own reading of the class: which method calls which, what
 * recurs, how deep the rest goes, and where objects and arrays come from. Run from the project's root.
 */
public final class CallsTest {
    private static final Due due = new Due();
    private static final int MOST_DEEP = 8;
    // Those whose depth an argument bounds; whoever adds one has to look at rule 8 first.
    private static final Set<String> RECURSIONS = Set.of("Reader.joint", "Reader.operand", "Reader.opened", "Rings.choose",
        "Matching.choose", "Turns.fewest", "Turns.most", "Shields.own", "Shields.above", "Shields.run");
    private static final Set<String> LIBRARY = Set.of("System.arraycopy", "Math.min", "Math.max", "Math.abs",
        "Integer.bitCount");

    private final Map<String, Set<String>> calls = new TreeMap<>();
    private final Set<String> faces = new TreeSet<>();
    private final Set<String> outside = new TreeSet<>();
    private final List<String> makers = new ArrayList<>();
    private final Map<String, Integer> deep = new TreeMap<>();

    private static String name(Element method) {
        return method.getEnclosingElement().getSimpleName() + "." + method.getSimpleName();
    }

    private final class Reading extends TreePathScanner<Void, Trees> {
        private final CompilationUnitTree unit;
        private String method = null;
        private boolean hasLoop = false;

        private Reading(CompilationUnitTree unit) {
            this.unit = unit;
        }

        @Override
        public Void visitMethod(MethodTree tree, Trees trees) {
            Element e = trees.getElement(getCurrentPath());
            method = name(e);
            calls.computeIfAbsent(method, k -> new TreeSet<>());
            if (e.getModifiers().contains(Modifier.PUBLIC)) faces.add(method);
            super.visitMethod(tree, trees);
            method = null;
            return null;
        }

        @Override
        public Void visitForLoop(ForLoopTree tree, Trees trees) {
            boolean was = hasLoop;
            hasLoop = true;
            super.visitForLoop(tree, trees);
            hasLoop = was;
            return null;
        }

        @Override
        public Void visitMethodInvocation(MethodInvocationTree tree, Trees trees) {
            Element e = trees.getElement(trees.getPath(unit, tree.getMethodSelect()));
            boolean own = e instanceof ExecutableElement && trees.getTree(e) != null;
            if (own && method != null) calls.get(method).add(name(e));
            if (!own && e.getKind() != ElementKind.CONSTRUCTOR) outside.add(name(e));
            return super.visitMethodInvocation(tree, trees);
        }

        @Override
        public Void visitNewClass(NewClassTree tree, Trees trees) {
            made(tree);
            return super.visitNewClass(tree, trees);
        }

        @Override
        public Void visitNewArray(NewArrayTree tree, Trees trees) {
            made(tree);
            return super.visitNewArray(tree, trees);
        }

        private void made(Tree tree) {
            if (method != null) makers.add(method + (hasLoop ? " in a loop: " : ": ") + tree);
        }
    }

    private void read() throws Exception {
        JavaCompiler compiler = ToolProvider.getSystemJavaCompiler();
        StandardJavaFileManager files = compiler.getStandardFileManager(null, null, null);
        JavacTask task = (JavacTask) compiler.getTask(null, files, null, null, null,
            files.getJavaFileObjects(new File("src/main/java/ShieldLine.java")));
        Iterable<? extends CompilationUnitTree> units = task.parse();
        task.analyze();
        for (CompilationUnitTree unit : units) new Reading(unit).scan(unit, Trees.instance(task));
    }

    private Set<String> reached(String from) {
        Set<String> all = new TreeSet<>();
        List<String> next = new ArrayList<>(calls.get(from));
        while (!next.isEmpty()) {
            String one = next.remove(next.size() - 1);
            if (all.add(one)) next.addAll(calls.get(one));
        }
        return all;
    }

    /** A recursion counts once, however many methods it goes through. */
    private int deepFrom(String method) {
        Integer known = deep.get(method);
        if (known != null) return known;
        int below = 0;
        Set<String> own = reached(method);
        boolean recurs = own.contains(method);
        for (String to : recurs ? own : calls.get(method)) {
            if (!recurs || !reached(to).contains(method)) below = Math.max(below, deepFrom(to));
        }
        deep.put(method, below + 1);
        return below + 1;
    }

    private void look() {
        due.is("the face's 39 methods, and the constructor", faces.size(), 40);
        Set<String> recursions = new TreeSet<>();
        for (String method : calls.keySet()) {
            if (reached(method).contains(method)) recursions.add(method);
        }
        due.same("what recurs", recursions.toString(), new TreeSet<>(RECURSIONS).toString());
        for (String face : faces) {
            due.is(face + " goes " + deepFrom(face) + " deep", deepFrom(face) <= MOST_DEEP ? 1 : 0, 1);
        }
        due.same("of the library", outside.toString(), new TreeSet<>(LIBRARY).toString());
        // All but one row comes with the object itself: so no run of calls can fill the room.
        due.same("what methods make", makers.toString(), "[Rings.find: new int[SLOTS]]");
    }

    public static void main(String[] args) throws Exception {
        CallsTest test = new CallsTest();
        test.read();
        test.look();
        due.end();
    }
}
