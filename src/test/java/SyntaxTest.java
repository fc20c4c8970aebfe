import com.sun.source.tree.BinaryTree;
import com.sun.source.tree.CompilationUnitTree;
import com.sun.source.tree.CompoundAssignmentTree;
import com.sun.source.tree.DoWhileLoopTree;
import com.sun.source.tree.ExpressionTree;
import com.sun.source.tree.ForLoopTree;
import com.sun.source.tree.MethodInvocationTree;
import com.sun.source.tree.MethodTree;
import com.sun.source.tree.NewClassTree;
import com.sun.source.tree.Tree;
import com.sun.source.tree.VariableTree;
import com.sun.source.tree.WhileLoopTree;
import com.sun.source.util.JavacTask;
import com.sun.source.util.TreePath;
import com.sun.source.util.TreePathScanner;
import com.sun.source.util.TreeScanner;
import com.sun.source.util.Trees;
import java.nio.file.Path;
import java.util.ArrayList;
import java.util.HashMap;
import java.util.HashSet;
import java.util.List;
import java.util.Map;
import java.util.Set;
import java.util.TreeMap;
import java.util.TreeSet;
import javax.lang.model.element.Element;
import javax.lang.model.element.ElementKind;
import javax.lang.model.element.Modifier;
import javax.lang.model.type.TypeMirror;
import javax.tools.JavaCompiler;
import javax.tools.StandardJavaFileManager;
import javax.tools.ToolProvider;

/** Of LANGUAGE.md what takes the compiler's own reading of the file: which calls, how deep, types, loops. */
final class SyntaxTest {
    private static final int DEEP = 8;
    // What is used of rule 4's list; more of it may be added here.
    private static final Set<String> LIBRARY = Set.of("String.length", "String.charAt", "Integer.compare", "Math.abs",
        "Math.max", "Math.min", "System.arraycopy", "Arrays.copyOf", "Arrays.fill", "Object.<init>");
    private static final Set<String> STATIC = Set.of("int", "long", "boolean", "char", "java.lang.String", "int[]",
        "long[]", "char[]", "byte[]");

    private final Check c = new Check("SyntaxTest");
    private final Map<String, Set<String>> calls = new TreeMap<>();
    private final Set<String> open = new TreeSet<>();
    private int loops = 0;

    public static void main(String[] args) throws Exception {
        new SyntaxTest().go();
    }

    private void go() throws Exception {
        JavaCompiler compiler = ToolProvider.getSystemJavaCompiler();
        try (StandardJavaFileManager files = compiler.getStandardFileManager(null, null, null)) {
            JavacTask task = (JavacTask) compiler.getTask(null, files, null, List.of("-proc:none"), null,
                files.getJavaFileObjects(Path.of("src/main/java/SweetWaits.java")));
            CompilationUnitTree unit = task.parse().iterator().next();
            task.analyze();
            new Reading(Trees.instance(task)).scan(unit, null);
        }
        c.so("calls were read", open.size() > 40 && loops > 40);
        depths();
        c.end();
    }

    /** Calls that are no recursion go eight deep at most: methods that call one another count as one. */
    private void depths() {
        Map<String, Set<String>> reach = new HashMap<>();
        for (String method : calls.keySet()) {
            reach.put(method, reached(method));
        }
        for (String method : open) {
            List<String> way = longest(method, reach, new HashMap<>());
            c.so(way.size() + " deep: " + way, way.size() <= DEEP);
        }
    }

    private Set<String> reached(String from) {
        Set<String> seen = new HashSet<>();
        List<String> todo = new ArrayList<>(calls.get(from));
        while (!todo.isEmpty()) {
            String next = todo.remove(todo.size() - 1);
            if (seen.add(next)) {
                todo.addAll(calls.getOrDefault(next, Set.of()));
            }
        }
        return seen;
    }

    private List<String> longest(String from, Map<String, Set<String>> reach, Map<String, List<String>> known) {
        if (known.containsKey(from)) {
            return known.get(from);
        }
        // All that call one another with it stand for one level.
        Set<String> circle = new TreeSet<>(Set.of(from));
        for (String other : reach.getOrDefault(from, Set.of())) {
            if (reach.getOrDefault(other, Set.of()).contains(from)) {
                circle.add(other);
            }
        }
        List<String> best = List.of();
        for (String method : circle) {
            for (String next : calls.getOrDefault(method, Set.of())) {
                List<String> way = circle.contains(next) ? List.of() : longest(next, reach, known);
                best = way.size() > best.size() ? way : best;
            }
        }
        List<String> whole = new ArrayList<>(List.of(from));
        whole.addAll(best);
        known.put(from, whole);
        return whole;
    }

    /** Goes through the file as the compiler understood it. */
    private final class Reading extends TreePathScanner<Void, Void> {
        private final Trees trees;
        private String method = "";

        Reading(Trees trees) {
            this.trees = trees;
        }

        @Override
        public Void visitMethod(MethodTree tree, Void nothing) {
            String was = method;
            Element element = trees.getElement(getCurrentPath());
            method = nameOf(element);
            calls.putIfAbsent(method, new TreeSet<>());
            boolean face = element.getEnclosingElement().getSimpleName().contentEquals("SweetWaits");
            if (face && element.getModifiers().contains(Modifier.PUBLIC)) {
                open.add(method);
            }
            super.visitMethod(tree, nothing);
            method = was;
            return null;
        }

        @Override
        public Void visitMethodInvocation(MethodInvocationTree tree, Void nothing) {
            called(trees.getElement(new TreePath(getCurrentPath(), tree.getMethodSelect())));
            return super.visitMethodInvocation(tree, nothing);
        }

        @Override
        public Void visitNewClass(NewClassTree tree, Void nothing) {
            c.so("no class without a name in " + method, tree.getClassBody() == null);
            called(trees.getElement(getCurrentPath()));
            return super.visitNewClass(tree, nothing);
        }

        private void called(Element element) {
            String name = nameOf(element);
            boolean own = element.getEnclosingElement().toString().startsWith("SweetWaits");
            c.so(name + " is of this file or in the list", own || LIBRARY.contains(name));
            if (own && !method.isEmpty()) {
                calls.get(method).add(name);
            }
        }

        @Override
        public Void visitVariable(VariableTree tree, Void nothing) {
            Element element = trees.getElement(getCurrentPath());
            boolean field = element.getKind() == ElementKind.FIELD;
            if (field && element.getModifiers().contains(Modifier.STATIC)) {
                c.so("a constant: " + element, STATIC.contains(element.asType().toString()));
                c.so("final: " + element, element.getModifiers().contains(Modifier.FINAL));
                c.so("written out: " + element, tree.getInitializer() != null);
            }
            c.so("no fraction: " + element, !element.asType().toString().matches("(double|float).*"));
            return super.visitVariable(tree, nothing);
        }

        @Override
        public Void visitBinary(BinaryTree tree, Void nothing) {
            boolean text = isText(tree.getLeftOperand()) || isText(tree.getRightOperand());
            c.so("no text is joined or compared by " + tree, !text);
            return super.visitBinary(tree, nothing);
        }

        @Override
        public Void visitCompoundAssignment(CompoundAssignmentTree tree, Void nothing) {
            c.so("no text is joined by " + tree, !isText(tree.getVariable()));
            return super.visitCompoundAssignment(tree, nothing);
        }

        private boolean isText(ExpressionTree part) {
            TypeMirror type = trees.getTypeMirror(new TreePath(getCurrentPath(), part));
            return type != null && type.toString().equals("java.lang.String");
        }

        @Override
        public Void visitForLoop(ForLoopTree tree, Void nothing) {
            c.so("a counter that goes on: " + head(tree), tree.getUpdate().size() == 1);
            bounded(tree.getCondition(), tree);
            return super.visitForLoop(tree, nothing);
        }

        @Override
        public Void visitWhileLoop(WhileLoopTree tree, Void nothing) {
            bounded(tree.getCondition(), tree);
            return super.visitWhileLoop(tree, nothing);
        }

        @Override
        public Void visitDoWhileLoop(DoWhileLoopTree tree, Void nothing) {
            bounded(tree.getCondition(), tree);
            return super.visitDoWhileLoop(tree, nothing);
        }

        /** A loop goes on only while a counter is on its side of a bound, whatever else it asks. */
        private void bounded(ExpressionTree condition, Tree loop) {
            loops++;
            boolean[] found = {false};
            new TreeScanner<Void, Void>() {
                @Override
                public Void visitBinary(BinaryTree tree, Void nothing) {
                    switch (tree.getKind()) {
                        case LESS_THAN, LESS_THAN_EQUAL, GREATER_THAN, GREATER_THAN_EQUAL -> found[0] = true;
                        case CONDITIONAL_AND -> super.visitBinary(tree, nothing);
                        default -> { }
                    }
                    return null;
                }
            }.scan(condition, null);
            c.so("a bound of " + head(loop), found[0]);
        }

        private String head(Tree tree) {
            return method + ": " + tree.toString().strip().split("\n")[0];
        }

        private String nameOf(Element element) {
            return element.getEnclosingElement().getSimpleName() + "." + element.getSimpleName();
        }
    }
}
