import com.sun.source.tree.ClassTree;
import com.sun.source.tree.CompilationUnitTree;
import com.sun.source.tree.DoWhileLoopTree;
import com.sun.source.tree.EnhancedForLoopTree;
import com.sun.source.tree.ForLoopTree;
import com.sun.source.tree.MethodInvocationTree;
import com.sun.source.tree.MethodTree;
import com.sun.source.tree.NewArrayTree;
import com.sun.source.tree.NewClassTree;
import com.sun.source.tree.ThrowTree;
import com.sun.source.tree.Tree;
import com.sun.source.tree.TryTree;
import com.sun.source.tree.VariableTree;
import com.sun.source.tree.WhileLoopTree;
import com.sun.source.util.JavacTask;
import com.sun.source.util.TreePathScanner;
import com.sun.source.util.Trees;
import java.io.IOException;
import java.nio.file.Path;
import java.util.HashMap;
import java.util.LinkedHashMap;
import java.util.List;
import java.util.Map;
import java.util.Set;
import java.util.TreeSet;
import javax.lang.model.element.Element;
import javax.lang.model.element.ElementKind;
import javax.lang.model.element.Modifier;
import javax.lang.model.element.VariableElement;
import javax.lang.model.type.ArrayType;
import javax.lang.model.type.TypeKind;
import javax.lang.model.type.TypeMirror;
import javax.tools.JavaCompiler;
import javax.tools.StandardJavaFileManager;
import javax.tools.ToolProvider;

/** Those rules of LANGUAGE.md that are seen by reading the program as the compiler does: calls, types, loops, throws. */
public final class RuleTest extends TreePathScanner<Void, Void> {
    private static final Set<String> LIBRARY = Set.of("java.lang.String.length", "java.lang.String.charAt",
        "java.lang.Math.min", "java.lang.Math.max", "java.lang.Integer.bitCount", "java.util.Arrays.fill");
    private static final Set<String> TYPES = Set.of("int", "long", "byte", "boolean", "java.lang.String");
    private static final Set<String> THROWN = Set.of("java.lang.IllegalArgumentException", "java.util.NoSuchElementException");
    private static final int MOST_DEEP = 8;

    private final Trees trees;
    private final Map<String, Set<String>> calls = new LinkedHashMap<>();
    private String method = "";
    private boolean inMaker = true;
    private int seen = 0;
    private int wrong = 0;

    private RuleTest(Trees trees) {
        this.trees = trees;
    }

    public static void main(String[] args) throws IOException {
        JavaCompiler compiler = ToolProvider.getSystemJavaCompiler();
        StandardJavaFileManager files = compiler.getStandardFileManager(null, null, null);
        JavacTask task = (JavacTask) compiler.getTask(null, files, null, List.of("-proc:none"), null,
            files.getJavaFileObjects(Path.of("src/main/java/FogWatch.java")));
        Iterable<? extends CompilationUnitTree> units = task.parse();
        task.analyze();
        RuleTest test = new RuleTest(Trees.instance(task));
        for (CompilationUnitTree unit : units) {
            test.scan(unit, null);
        }
        test.recursion();
        test.depth();
        System.out.println("RuleTest: " + test.calls.size() + " methods, " + test.seen + " calls in them, "
            + test.wrong + " breaches");
        if (test.wrong != 0 || test.calls.size() < 41) {
            System.exit(1);
        }
    }

    private void must(boolean good, String what) {
        if (!good) {
            wrong++;
            System.out.println(method + ": " + what);
        }
    }

    private Element here() {
        return trees.getElement(getCurrentPath());
    }

    private static String nameOf(Element e) {
        return e.getEnclosingElement() + "." + e.getSimpleName();
    }

    private static boolean isOwn(String name) {
        return name.equals("FogWatch") || name.startsWith("FogWatch.");
    }

    @Override
    public Void visitMethod(MethodTree tree, Void none) {
        Element e = here();
        String outer = method;
        boolean outerMaker = inMaker;
        method = nameOf(e);
        inMaker = e.getKind() == ElementKind.CONSTRUCTOR;
        must(calls.put(method, new TreeSet<>()) == null, "two methods of one name");
        super.visitMethod(tree, none);
        method = outer;
        inMaker = outerMaker;
        return null;
    }

    @Override
    public Void visitMethodInvocation(MethodInvocationTree tree, Void none) {
        String called = nameOf(here());
        must(isOwn(called) || LIBRARY.contains(called) || called.endsWith(".<init>"), "rule 4: calls " + called);
        if (calls.containsKey(method) && !called.endsWith(".<init>")) {
            calls.get(method).add(called);
            seen++;
        }
        return super.visitMethodInvocation(tree, none);
    }

    @Override
    public Void visitNewClass(NewClassTree tree, Void none) {
        String made = nameOf(here()).replace(".<init>", "");
        boolean thrown = getCurrentPath().getParentPath().getLeaf().getKind() == Tree.Kind.THROW;
        must(thrown || inMaker, "makes " + made + " by a call");
        must(thrown ? THROWN.contains(made) : isOwn(made), "rule 6 or 4: makes " + made);
        if (!thrown && calls.containsKey(method)) {
            calls.get(method).add(made + ".<init>");
        }
        return super.visitNewClass(tree, none);
    }

    @Override
    public Void visitNewArray(NewArrayTree tree, Void none) {
        must(inMaker, "makes a row by a call");
        return super.visitNewArray(tree, none);
    }

    @Override
    public Void visitThrow(ThrowTree tree, Void none) {
        must(!inMaker, "rule 6: throws in a constructor");
        must(tree.getExpression().getKind() == Tree.Kind.NEW_CLASS, "rule 6: throws what is not new");
        return super.visitThrow(tree, none);
    }

    @Override
    public Void visitTry(TryTree tree, Void none) {
        must(false, "try stands in the program");
        return null;
    }

    @Override
    public Void visitForLoop(ForLoopTree tree, Void none) {
        must(tree.getCondition() != null && tree.getUpdate().size() == 1, "rule 9: a loop whose end is not seen");
        return super.visitForLoop(tree, none);
    }

    @Override
    public Void visitEnhancedForLoop(EnhancedForLoopTree tree, Void none) {
        must(false, "a loop over a row is not looked for here");
        return null;
    }

    @Override
    public Void visitWhileLoop(WhileLoopTree tree, Void none) {
        must(false, "rule 9: while");
        return null;
    }

    @Override
    public Void visitDoWhileLoop(DoWhileLoopTree tree, Void none) {
        must(false, "rule 9: do");
        return null;
    }

    @Override
    public Void visitVariable(VariableTree tree, Void none) {
        VariableElement e = (VariableElement) here();
        TypeMirror type = e.asType();
        if (type.getKind() == TypeKind.ARRAY) {
            type = ((ArrayType) type).getComponentType();
        }
        must(TYPES.contains(type.toString()) || isOwn(type.toString()), "rule 3: " + e + " is of " + e.asType());
        if (e.getModifiers().contains(Modifier.STATIC)) {
            must(e.getModifiers().contains(Modifier.FINAL) && e.getConstantValue() != null, "rule 5: " + e + " is no constant");
        }
        return super.visitVariable(tree, none);
    }

    @Override
    public Void visitClass(ClassTree tree, Void none) {
        Element e = here();
        must(!e.getSimpleName().toString().isEmpty(), "a class without a name");
        must(e.getModifiers().contains(Modifier.FINAL), "a class that another could extend: " + e);
        return super.visitClass(tree, none);
    }

    // ---- calls in calls

    private Set<String> reachedFrom(String start) {
        Set<String> reached = new TreeSet<>();
        Set<String> open = new TreeSet<>(calls.getOrDefault(start, Set.of()));
        while (!open.isEmpty()) {
            Set<String> next = new TreeSet<>();
            for (String name : open) {
                if (reached.add(name)) {
                    next.addAll(calls.getOrDefault(name, Set.of()));
                }
            }
            open = next;
        }
        return reached;
    }

    /** Only the readers of a law and of work call themselves, each by the depth that it carries. */
    private void recursion() {
        Set<String> again = new TreeSet<>();
        for (String name : calls.keySet()) {
            if (reachedFrom(name).contains(name)) {
                again.add(name);
            }
        }
        Set<String> due = new TreeSet<>(List.of("FogWatch.Law.readSum", "FogWatch.Law.readProduct", "FogWatch.Law.readUnit",
            "FogWatch.Law.readNamed", "FogWatch.Steps.readAll", "FogWatch.Steps.readStep", "FogWatch.Steps.readAgain"));
        must(again.equals(due), "rule 8: these call themselves: " + again);
    }

    /** The library's calls are counted, too; those that call one another count as one. */
    private void depth() {
        Map<String, Integer> deep = new HashMap<>();
        for (String name : calls.keySet()) {
            int many = depthOf(name, deep);
            must(many <= MOST_DEEP, "rule 11: " + name + " goes " + many + " deep");
        }
    }

    private int depthOf(String name, Map<String, Integer> deep) {
        if (deep.containsKey(name)) {
            return deep.get(name);
        }
        Set<String> knot = new TreeSet<>(Set.of(name));
        for (String other : reachedFrom(name)) {
            if (reachedFrom(other).contains(name)) {
                knot.add(other);
            }
        }
        int below = 0;
        for (String member : knot) {
            for (String next : calls.getOrDefault(member, Set.of())) {
                below = knot.contains(next) ? below : Math.max(below, depthOf(next, deep));
            }
        }
        for (String member : knot) {
            deep.put(member, below + 1);
        }
        return below + 1;
    }
}
