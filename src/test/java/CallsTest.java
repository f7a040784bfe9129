import com.sun.source.tree.ClassTree;
import com.sun.source.tree.CompilationUnitTree;
import com.sun.source.tree.MethodInvocationTree;
import com.sun.source.tree.MethodTree;
import com.sun.source.tree.NewArrayTree;
import com.sun.source.tree.NewClassTree;
import com.sun.source.tree.Tree;
import com.sun.source.tree.VariableTree;
import com.sun.source.util.JavacTask;
import com.sun.source.util.TreePath;
import com.sun.source.util.TreePathScanner;
import com.sun.source.util.Trees;
import java.nio.file.Path;
import java.util.EnumSet;
import java.util.HashSet;
import java.util.LinkedHashMap;
import java.util.List;
import java.util.Map;
import java.util.Set;
import java.util.TreeSet;
import javax.lang.model.element.Element;
import javax.lang.model.element.ElementKind;
import javax.lang.model.element.Modifier;
import javax.lang.model.util.ElementFilter;
import javax.tools.JavaCompiler;
import javax.tools.StandardJavaFileManager;
import javax.tools.ToolProvider;

/**
 * The rules of LANGUAGE.md that can be read from the compiler's tree of the class: which statements and which calls of
 * the library it has (rules 2, 4 and 6), static fields (5), recursion (8), the sizes of rule 11, and that objects are
 * made by constructors alone (12). Run from the project's root.
 */
public final class CallsTest {
    private static final Path SOURCE = Path.of("src/main/java/RuleDepths.java");
    private static final int MOST_DEEP = 8;
    private static final int MOST_LINES = 60;
    private static final int MOST_PARAMETERS = 7;
    private static final int MOST_CLASSES = 12;
    private static final int MOST_FIELDS = 20;
    private static final Set<Tree.Kind> FORBIDDEN = EnumSet.of(Tree.Kind.THROW, Tree.Kind.TRY, Tree.Kind.CATCH,
            Tree.Kind.SYNCHRONIZED, Tree.Kind.ASSERT, Tree.Kind.LAMBDA_EXPRESSION, Tree.Kind.MEMBER_REFERENCE,
            Tree.Kind.TYPE_CAST, Tree.Kind.INSTANCE_OF, Tree.Kind.IMPORT, Tree.Kind.PACKAGE, Tree.Kind.ANNOTATION,
            Tree.Kind.STRING_LITERAL);
    /** Of the library that rule 4 lists the class needs no more than this. */
    private static final Set<String> LIBRARY = Set.of("java.lang.Math.max(int,int)", "java.lang.Math.min(int,int)",
            "java.lang.System.arraycopy(java.lang.Object,int,java.lang.Object,int,int)", "java.lang.Object.Object()");

    /** For each method and constructor of the class those of the class that it calls. */
    private static final Map<Element, Set<Element>> CALLS = new LinkedHashMap<>();
    private static final Set<String> OUTSIDE = new TreeSet<>();
    private static int classes;

    public static void main(String[] args) throws Exception {
        JavaCompiler compiler = ToolProvider.getSystemJavaCompiler();
        try (StandardJavaFileManager files = compiler.getStandardFileManager(null, null, null)) {
            JavacTask task = (JavacTask) compiler.getTask(null, files, null, List.of("-proc:none"), null,
                    files.getJavaFileObjects(SOURCE));
            Iterable<? extends CompilationUnitTree> units = task.parse();
            task.analyze();
            for (CompilationUnitTree unit : units) {
                new Scanner(Trees.instance(task), unit).scan(unit, null);
            }
        }
        Due.holds("classes: " + classes, classes >= 1 && classes <= MOST_CLASSES);
        for (String call : OUTSIDE) {
            Due.holds("a call of the library: " + call, LIBRARY.contains(call));
        }
        Due.holds("methods and constructors: " + CALLS.size(), CALLS.size() > 24);
        int deepest = 0;
        for (Element method : CALLS.keySet()) {
            boolean recursive = reached(method).contains(method);
            Due.holds(method + " is recursive, and not private",
                    !recursive || method.getModifiers().contains(Modifier.PRIVATE));
            int deep = deep(method, new HashSet<>());
            Due.holds("calls from " + method + " go " + deep + " deep", deep <= MOST_DEEP);
            deepest = Math.max(deepest, deep);
        }
        System.out.println("the longest chain of calls that are no recursion has " + deepest + " methods");
        Due.end();
    }

    /** All that is called by a method, and by those that it calls. */
    private static Set<Element> reached(Element method) {
        Set<Element> all = new HashSet<>();
        collect(method, all);
        return all;
    }

    private static void collect(Element method, Set<Element> all) {
        for (Element called : CALLS.getOrDefault(method, Set.of())) {
            if (all.add(called)) {
                collect(called, all);
            }
        }
    }

    /** The methods of the longest chain from a method on; those that call one another count as one. */
    private static int deep(Element method, Set<Element> above) {
        Set<Element> ring = new HashSet<>();
        for (Element other : reached(method)) {
            if (reached(other).contains(method)) {
                ring.add(other);
            }
        }
        ring.add(method);
        int deepest = 0;
        for (Element member : ring) {
            for (Element called : CALLS.getOrDefault(member, Set.of())) {
                if (!ring.contains(called) && !above.contains(called)) {
                    deepest = Math.max(deepest, deep(called, ring));
                }
            }
        }
        return 1 + deepest;
    }

    private static final class Scanner extends TreePathScanner<Void, Void> {
        private final Trees trees;
        private final CompilationUnitTree unit;

        Scanner(Trees trees, CompilationUnitTree unit) {
            this.trees = trees;
            this.unit = unit;
        }

        @Override
        public Void scan(Tree tree, Void nothing) {
            if (tree != null) {
                Due.holds("line " + line(trees.getSourcePositions().getStartPosition(unit, tree)) + " has "
                        + tree.getKind(), !FORBIDDEN.contains(tree.getKind()));
            }
            return super.scan(tree, nothing);
        }

        private long line(long position) {
            return position < 0 ? 0 : unit.getLineMap().getLineNumber(position);
        }

        @Override
        public Void visitClass(ClassTree tree, Void nothing) {
            classes++;
            long fields = 0;
            for (Tree member : tree.getMembers()) {
                if (member instanceof VariableTree) {
                    Set<Modifier> flags = ((VariableTree) member).getModifiers().getFlags();
                    boolean isStatic = flags.contains(Modifier.STATIC);
                    fields += isStatic ? 0 : 1;
                    Due.holds(member + " is static, and not final", !isStatic || flags.contains(Modifier.FINAL));
                }
                Due.holds(tree.getSimpleName() + " has a block of its own", member.getKind() != Tree.Kind.BLOCK);
            }
            Due.holds(tree.getSimpleName() + " has " + fields + " fields", fields <= MOST_FIELDS);
            return super.visitClass(tree, nothing);
        }

        @Override
        public Void visitMethod(MethodTree tree, Void nothing) {
            CALLS.putIfAbsent(trees.getElement(getCurrentPath()), new HashSet<>());
            long first = line(trees.getSourcePositions().getStartPosition(unit, tree));
            long last = line(trees.getSourcePositions().getEndPosition(unit, tree));
            Due.holds(tree.getName() + " has " + (last - first + 1) + " lines", last - first < MOST_LINES);
            Due.holds(tree.getName() + " has many parameters", tree.getParameters().size() <= MOST_PARAMETERS);
            return super.visitMethod(tree, nothing);
        }

        @Override
        public Void visitMethodInvocation(MethodInvocationTree tree, Void nothing) {
            called(trees.getElement(new TreePath(getCurrentPath(), tree.getMethodSelect())));
            return super.visitMethodInvocation(tree, nothing);
        }

        @Override
        public Void visitNewClass(NewClassTree tree, Void nothing) {
            Due.holds("an anonymous class", tree.getClassBody() == null);
            madeInAConstructor(tree);
            called(trees.getElement(getCurrentPath()));
            return super.visitNewClass(tree, nothing);
        }

        @Override
        public Void visitNewArray(NewArrayTree tree, Void nothing) {
            madeInAConstructor(tree);
            return super.visitNewArray(tree, nothing);
        }

        /** All calls of a run live in one room, so none of them is to make an object. */
        private void madeInAConstructor(Tree made) {
            for (Element maker : callers(getCurrentPath())) {
                Due.holds(maker + " makes " + made, maker.getKind() == ElementKind.CONSTRUCTOR);
            }
        }

        private void called(Element target) {
            if (trees.getTree(target) == null) {
                OUTSIDE.add(target.getEnclosingElement() + "."
                        + target.toString().replace("java.lang.Object()", "Object()"));
                return;
            }
            for (Element caller : callers(getCurrentPath())) {
                CALLS.computeIfAbsent(caller, c -> new HashSet<>()).add(target);
            }
        }

        /** The method around a call, or for a field's first value the constructors of its class. */
        private List<Element> callers(TreePath path) {
            TreePath around = path;
            while (!(around.getLeaf() instanceof MethodTree) && !(around.getLeaf() instanceof ClassTree)) {
                around = around.getParentPath();
            }
            Element element = trees.getElement(around);
            return around.getLeaf() instanceof MethodTree ? List.of(element)
                    : List.copyOf(ElementFilter.constructorsIn(element.getEnclosedElements()));
        }
    }
}
