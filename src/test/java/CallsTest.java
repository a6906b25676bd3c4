import com.sun.source.tree.ArrayAccessTree;
import com.sun.source.tree.BinaryTree;
import com.sun.source.tree.ClassTree;
import com.sun.source.tree.CompilationUnitTree;
import com.sun.source.tree.DoWhileLoopTree;
import com.sun.source.tree.ExpressionTree;
import com.sun.source.tree.ForLoopTree;
import com.sun.source.tree.IdentifierTree;
import com.sun.source.tree.LambdaExpressionTree;
import com.sun.source.tree.LiteralTree;
import com.sun.source.tree.MemberReferenceTree;
import com.sun.source.tree.MethodInvocationTree;
import com.sun.source.tree.MethodTree;
import com.sun.source.tree.NewArrayTree;
import com.sun.source.tree.NewClassTree;
import com.sun.source.tree.ThrowTree;
import com.sun.source.tree.Tree;
import com.sun.source.tree.TypeCastTree;
import com.sun.source.tree.WhileLoopTree;
import com.sun.source.util.JavacTask;
import com.sun.source.util.TreePath;
import com.sun.source.util.TreePathScanner;
import com.sun.source.util.TreeScanner;
import com.sun.source.util.Trees;
import java.io.IOException;
import java.nio.file.Path;
import java.util.List;
import java.util.Map;
import java.util.Set;
import java.util.TreeMap;
import java.util.TreeSet;
import java.util.regex.Pattern;
import javax.lang.model.element.Element;
import javax.lang.model.element.ElementKind;
import javax.lang.model.element.Modifier;
import javax.lang.model.element.VariableElement;
import javax.tools.JavaCompiler;
import javax.tools.StandardJavaFileManager;
import javax.tools.ToolProvider;

/** LANGUAGE.md's rules 4 and 7 to 12, as far as javac's own trees of the class show them. */
public final class CallsTest extends TreePathScanner<Void, Void> {
    private static final Path SOURCE = Path.of("src/main/java/CardCups.java");
    private static final int DEEPEST = 8;
    private static final Set<String> LIBRARY = Set.of("java.lang.String.length", "java.lang.String.charAt", "java.lang.Math.min",
        "java.lang.Math.max", "java.lang.Object.<init>");

    private final Trees trees;
    private final Map<String, Set<String>> calls = new TreeMap<>();
    private final Map<String, MethodTree> methods = new TreeMap<>();

    private CallsTest(Trees trees) {
        this.trees = trees;
    }

    public static void main(String[] args) throws IOException {
        JavaCompiler javac = ToolProvider.getSystemJavaCompiler();
        try (StandardJavaFileManager files = javac.getStandardFileManager(null, null, null)) {
            JavacTask task = (JavacTask) javac.getTask(null, files, null, List.of("-proc:none"), null, files.getJavaFileObjects(SOURCE));
            Iterable<? extends CompilationUnitTree> units = task.parse();
            task.analyze();
            CallsTest test = new CallsTest(Trees.instance(task));
            for (CompilationUnitTree unit : units) test.scan(unit, null);
            test.depth();
        }
        Check.end();
    }

    // ---- who calls whom ----

    private static String nameOf(Element method) {
        return method.getEnclosingElement() + "." + method.getSimpleName();
    }

    private String here() {
        for (TreePath path = getCurrentPath(); path != null; path = path.getParentPath()) {
            if (path.getLeaf() instanceof MethodTree) return nameOf(trees.getElement(path));
        }
        return "outside";
    }

    private void calls(Element called) {
        Check.part("rule 4");
        String name = nameOf(called);
        if (name.startsWith("CardCups.")) calls.computeIfAbsent(here(), k -> new TreeSet<>()).add(name);
        else if (!LIBRARY.contains(name)) Check.wrong("calls " + name, here());
    }

    @Override
    public Void visitMethod(MethodTree method, Void none) {
        Check.part("rule 1");
        if (methods.put(here(), method) != null && !here().endsWith("<init>")) Check.wrong("bears a name twice", here());
        calls.computeIfAbsent(here(), k -> new TreeSet<>());
        return super.visitMethod(method, none);
    }

    @Override
    public Void visitMethodInvocation(MethodInvocationTree call, Void none) {
        calls(trees.getElement(new TreePath(getCurrentPath(), call.getMethodSelect())));
        return super.visitMethodInvocation(call, none);
    }

    @Override
    public Void visitNewClass(NewClassTree made, Void none) {
        boolean thrown = getCurrentPath().getParentPath().getLeaf() instanceof ThrowTree;
        if (!thrown) {
            calls(trees.getElement(getCurrentPath()));
            onlyInConstructors();
        }
        return super.visitNewClass(made, none);
    }

    @Override
    public Void visitNewArray(NewArrayTree made, Void none) {
        onlyInConstructors();
        for (ExpressionTree length : made.getDimensions()) {
            if (constant(length) <= 0) Check.wrong("makes an array of " + length, here());
        }
        return super.visitNewArray(made, none);
    }

    /** So that all rows are made once, and a call makes none. */
    private void onlyInConstructors() {
        Check.part("rule 12");
        String here = here();
        if (!here.equals("outside") && !here.endsWith(".<init>")) Check.wrong("makes something", here);
    }

    private void depth() {
        Check.part("rules 8, 11: how deep calls go");
        Map<String, Set<String>> reach = new TreeMap<>();
        for (String name : calls.keySet()) {
            Set<String> all = new TreeSet<>();
            follow(name, all);
            reach.put(name, all);
        }
        Map<String, Integer> known = new TreeMap<>();
        for (String name : calls.keySet()) {
            int deep = depth(name, reach, known);
            if (deep > DEEPEST) Check.wrong("goes " + deep + " deep", name);
            if (reach.get(name).contains(name)) recursive(name);
        }
        if (known.size() < 100) Check.wrong("are all that was found", known.size() + " methods");
    }

    private void follow(String name, Set<String> all) {
        for (String called : calls.getOrDefault(name, Set.of())) {
            if (all.add(called)) follow(called, all);
        }
    }

    /** Methods that call one another count as one level. */
    private int depth(String name, Map<String, Set<String>> reach, Map<String, Integer> known) {
        if (known.containsKey(name)) return known.get(name);
        int deepest = 0;
        Set<String> ring = new TreeSet<>(Set.of(name));
        for (String other : reach.get(name)) if (reach.get(other).contains(name)) ring.add(other);
        for (String one : ring) {
            for (String called : calls.get(one)) {
                if (!ring.contains(called)) deepest = Math.max(deepest, depth(called, reach, known));
            }
        }
        for (String one : ring) known.put(one, deepest + 1);
        return deepest + 1;
    }

    private void recursive(String name) {
        MethodTree method = methods.get(name);
        boolean counted = method.getParameters().stream().anyMatch(p -> p.getName().contentEquals("open"));
        boolean hidden = method.getModifiers().getFlags().contains(Modifier.PRIVATE);
        if (!counted || !hidden) Check.wrong("calls itself without a depth, or openly", name);
    }

    // ---- what is looked at before it is used ----

    private String textOf(Tree tree) {
        return tree.toString();
    }

    /** The text of the method that the path is in. */
    private String around() {
        for (TreePath path = getCurrentPath(); path != null; path = path.getParentPath()) {
            if (path.getLeaf() instanceof MethodTree) return textOf(path.getLeaf());
        }
        return "";
    }

    /** A constant's value; -1 for what is none. */
    private long constant(ExpressionTree tree) {
        if (tree instanceof LiteralTree literal && literal.getValue() instanceof Number n) return n.longValue();
        Element element = trees.getElement(new TreePath(getCurrentPath(), tree));
        if (element instanceof VariableElement field && field.getConstantValue() instanceof Number n) return n.longValue();
        if (tree instanceof BinaryTree sum) {
            long left = constant(sum.getLeftOperand());
            long right = constant(sum.getRightOperand());
            if (left < 0 || right < 0) return -1;
            return sum.getKind() == Tree.Kind.PLUS ? left + right : left * right;
        }
        return -1;
    }

    @Override
    public Void visitBinary(BinaryTree sum, Void none) {
        Check.part("rule 7: divisors");
        boolean divides = sum.getKind() == Tree.Kind.DIVIDE || sum.getKind() == Tree.Kind.REMAINDER;
        if (divides && constant(sum.getRightOperand()) <= 0) {
            String divisor = textOf(sum.getRightOperand());
            if (!Pattern.compile("\\b" + divisor + " (<=|>|!=) 0").matcher(around()).find()) Check.wrong("divides by " + divisor, here());
        }
        return super.visitBinary(sum, none);
    }

    @Override
    public Void visitArrayAccess(ArrayAccessTree access, Void none) {
        Check.part("rule 7: indexes");
        if (constant(access.getIndex()) < 0) {
            String around = around();
            new TreeScanner<Void, Void>() {
                @Override
                public Void visitIdentifier(IdentifierTree name, Void n) {
                    // page() answers a page that there is, whatever is asked of it
                    if (!isCompared("" + name, around) && !name.getName().contentEquals("page")) {
                        Check.wrong("is used as an index and not looked at", here() + ": " + access);
                    }
                    return null;
                }
            }.scan(access.getIndex(), null);
        }
        return super.visitArrayAccess(access, none);
    }

    /** In the method itself, or by a method of its own for that. */
    private static boolean isCompared(String name, String around) {
        return Pattern.compile("(<|>|<=|>=) " + name + "\\b").matcher(around).find()
            || Pattern.compile("\\b" + name + "( [+-] \\w+)? (<|>|<=|>=) ").matcher(around).find()
            || Pattern.compile("\\b(isVisit|hasCondition)\\(" + name + "\\)").matcher(around).find();
    }

    @Override
    public Void visitTypeCast(TypeCastTree cast, Void none) {
        Check.part("rule 7: casts");
        if (!textOf(cast.getType()).equals("byte")) Check.wrong("casts to " + cast.getType(), here());
        return super.visitTypeCast(cast, none);
    }

    // ---- loops ----

    private void ends(ExpressionTree condition) {
        Check.part("rule 9");
        if (condition == null || !textOf(condition).matches("(?s).*[<>].*")) Check.wrong("has a loop without an end", here());
    }

    @Override
    public Void visitForLoop(ForLoopTree loop, Void none) {
        ends(loop.getCondition());
        return super.visitForLoop(loop, none);
    }

    @Override
    public Void visitWhileLoop(WhileLoopTree loop, Void none) {
        ends(loop.getCondition());
        return super.visitWhileLoop(loop, none);
    }

    @Override
    public Void visitDoWhileLoop(DoWhileLoopTree loop, Void none) {
        ends(loop.getCondition());
        return super.visitDoWhileLoop(loop, none);
    }

    @Override
    public Void visitLambdaExpression(LambdaExpressionTree lambda, Void none) {
        Check.part("rule 2");
        Check.wrong("has a lambda", here());
        return super.visitLambdaExpression(lambda, none);
    }

    @Override
    public Void visitMemberReference(MemberReferenceTree reference, Void none) {
        Check.part("rule 2");
        Check.wrong("has a method reference", here());
        return super.visitMemberReference(reference, none);
    }

    @Override
    public Void visitClass(ClassTree one, Void none) {
        Check.part("rule 2");
        if (trees.getElement(getCurrentPath()).getKind() != ElementKind.CLASS) Check.wrong("is no class", "" + one.getSimpleName());
        return super.visitClass(one, none);
    }
}
