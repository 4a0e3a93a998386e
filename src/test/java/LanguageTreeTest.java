import com.sun.source.tree.ArrayAccessTree;
import com.sun.source.tree.BinaryTree;
import com.sun.source.tree.ClassTree;
import com.sun.source.tree.CompilationUnitTree;
import com.sun.source.tree.CompoundAssignmentTree;
import com.sun.source.tree.EnhancedForLoopTree;
import com.sun.source.tree.ExpressionTree;
import com.sun.source.tree.ForLoopTree;
import com.sun.source.tree.IdentifierTree;
import com.sun.source.tree.LiteralTree;
import com.sun.source.tree.MethodInvocationTree;
import com.sun.source.tree.MethodTree;
import com.sun.source.tree.NewArrayTree;
import com.sun.source.tree.NewClassTree;
import com.sun.source.tree.Tree;
import com.sun.source.tree.TypeCastTree;
import com.sun.source.tree.VariableTree;
import com.sun.source.util.JavacTask;
import com.sun.source.util.TreePath;
import com.sun.source.util.TreePathScanner;
import com.sun.source.util.Trees;
import java.io.IOException;
import java.nio.file.Path;
import java.util.EnumSet;
import java.util.HashSet;
import java.util.LinkedHashMap;
import java.util.LinkedHashSet;
import java.util.List;
import java.util.Map;
import java.util.Set;
import java.util.TreeSet;
import javax.lang.model.element.Element;
import javax.lang.model.element.ElementKind;
import javax.lang.model.element.ExecutableElement;
import javax.lang.model.element.Modifier;
import javax.lang.model.element.VariableElement;
import javax.lang.model.type.TypeKind;
import javax.lang.model.type.TypeMirror;
import javax.tools.JavaCompiler;
import javax.tools.StandardJavaFileManager;
import javax.tools.ToolProvider;

/** Those rules of LANGUAGE.md that need the compiler's tree; run from the project's folder. */
public final class LanguageTreeTest extends TreePathScanner<Void, Void> {
    private static final Set<Tree.Kind> REFUSED = EnumSet.of(Tree.Kind.THROW, Tree.Kind.TRY, Tree.Kind.SYNCHRONIZED, Tree.Kind.ASSERT,
        Tree.Kind.LAMBDA_EXPRESSION, Tree.Kind.MEMBER_REFERENCE, Tree.Kind.WHILE_LOOP, Tree.Kind.DO_WHILE_LOOP,
        Tree.Kind.IMPORT, Tree.Kind.PACKAGE, Tree.Kind.ANNOTATION);
    /** Of rule 4; Math and Integer have many more, none of which is in use. */
    private static final Map<String, Set<String>> LIBRARY = Map.of(
        "java.lang.String", Set.of("length", "charAt", "isEmpty", "equals", "indexOf", "substring", "toCharArray"),
        "java.lang.Math", Set.of("max", "min", "abs", "floorDiv", "floorMod"),
        "java.lang.Integer", Set.of("compare", "max", "min", "bitCount"),
        "java.lang.System", Set.of("arraycopy"),
        "java.util.Arrays", Set.of("copyOf", "copyOfRange", "fill"),
        "java.lang.Object", Set.of("<init>"));

    private final Trees trees;
    private final Map<Element, Set<Element>> calls = new LinkedHashMap<>();
    private final Map<Element, MethodTree> methods = new LinkedHashMap<>();
    private MethodTree method = null;

    private LanguageTreeTest(Trees trees) {
        this.trees = trees;
    }

    public static void main(String[] args) throws IOException {
        JavaCompiler compiler = ToolProvider.getSystemJavaCompiler();
        try (StandardJavaFileManager files = compiler.getStandardFileManager(null, null, null)) {
            JavacTask task = (JavacTask) compiler.getTask(null, files, null, List.of("-proc:none"), null,
                files.getJavaFileObjects(Path.of("src/main/java/HeadCloths.java")));
            Iterable<? extends CompilationUnitTree> units = task.parse();
            task.analyze();
            LanguageTreeTest test = new LanguageTreeTest(Trees.instance(task));
            for (CompilationUnitTree unit : units) {
                test.scan(unit, null);
            }
            test.library();
            test.depths();
            test.recursion();
        }
        Checks.end("LanguageTreeTest");
    }

    private static void holds(String rule, Tree where, boolean so) {
        Checks.due(rule + ": " + where.toString().strip(), true, so);
    }

    private Element element() {
        return trees.getElement(getCurrentPath());
    }

    // ---- tree by tree

    @Override
    public Void scan(Tree tree, Void none) {
        if (tree != null && REFUSED.contains(tree.getKind())) {
            holds("rules 2, 4, 6, 9: " + tree.getKind(), tree, false);
        }
        return super.scan(tree, none);
    }

    @Override
    public Void visitClass(ClassTree tree, Void none) {
        Element it = element();
        boolean outer = it.getEnclosingElement().getKind() == ElementKind.PACKAGE;
        Checks.due("rule 2: static or the face: " + it, true, outer || it.getModifiers().contains(Modifier.STATIC));
        Checks.due("rule 2: in the face itself: " + it, true, outer || it.getEnclosingElement().toString().equals("HeadCloths"));
        return super.visitClass(tree, none);
    }

    @Override
    public Void visitMethod(MethodTree tree, Void none) {
        MethodTree outer = method;
        method = tree;
        methods.put(element(), tree);
        calls.put(element(), new LinkedHashSet<>());
        super.visitMethod(tree, none);
        method = outer;
        return null;
    }

    @Override
    public Void visitVariable(VariableTree tree, Void none) {
        VariableElement it = (VariableElement) element();
        if (it.getModifiers().contains(Modifier.STATIC)) {
            Checks.due("rule 5: a constant: " + it, true, it.getModifiers().contains(Modifier.FINAL) && it.getConstantValue() != null);
        }
        holds("rule 3", tree, fits(it.asType()));
        return super.visitVariable(tree, none);
    }

    private static boolean fits(TypeMirror type) {
        Set<String> known = Set.of("int", "long", "short", "byte", "char", "boolean", "int[]", "long[]", "byte[]", "char[]", "boolean[]",
            "java.lang.String", "java.lang.StringBuilder");
        return known.contains(type.toString()) || type.toString().startsWith("HeadCloths.") && !type.toString().endsWith("[][]");
    }

    @Override
    public Void visitMethodInvocation(MethodInvocationTree tree, Void none) {
        noteCall();
        return super.visitMethodInvocation(tree, none);
    }

    @Override
    public Void visitNewClass(NewClassTree tree, Void none) {
        noteCall();
        holds("rule 2: no class without a name", tree, tree.getClassBody() == null);
        holds("rule 12: made with the object", tree, madeWithTheObject());
        return super.visitNewClass(tree, none);
    }

    @Override
    public Void visitNewArray(NewArrayTree tree, Void none) {
        holds("rule 12: made with the object", tree, madeWithTheObject());
        for (ExpressionTree length : tree.getDimensions()) {
            holds("a length that is known", length, isConstant(new TreePath(getCurrentPath(), length)));
        }
        return super.visitNewArray(tree, none);
    }

    private boolean madeWithTheObject() {
        return method == null || method.getName().contentEquals("<init>");
    }

    private void noteCall() {
        if (method != null) {
            calls.get(trees.getElement(pathOf(method))).add(element());
        }
    }

    private TreePath pathOf(Tree tree) {
        return trees.getPath(getCurrentPath().getCompilationUnit(), tree);
    }

    @Override
    public Void visitForLoop(ForLoopTree tree, Void none) {
        holds("rule 9: an end", tree, tree.getCondition() != null && tree.getCondition().toString().matches("(?s).*(<|<=|>=|>) .*"));
        return super.visitForLoop(tree, none);
    }

    @Override
    public Void visitEnhancedForLoop(EnhancedForLoopTree tree, Void none) {
        TypeMirror over = trees.getTypeMirror(new TreePath(getCurrentPath(), tree.getExpression()));
        holds("rule 9: over an array", tree, over.getKind() == TypeKind.ARRAY);
        return super.visitEnhancedForLoop(tree, none);
    }

    // ---- what the machine would throw at: each is tested ahead of it, in the same method

    @Override
    public Void visitBinary(BinaryTree tree, Void none) {
        TypeMirror left = trees.getTypeMirror(new TreePath(getCurrentPath(), tree.getLeftOperand()));
        boolean same = tree.getKind() == Tree.Kind.EQUAL_TO || tree.getKind() == Tree.Kind.NOT_EQUAL_TO;
        holds("rule 6: no == between texts", tree, !same || !left.toString().equals("java.lang.String"));
        holds("rule 10: no texts joined by +", tree, !left.toString().equals("java.lang.String"));
        if (tree.getKind() == Tree.Kind.DIVIDE || tree.getKind() == Tree.Kind.REMAINDER) {
            ExpressionTree by = tree.getRightOperand();
            TreePath path = new TreePath(getCurrentPath(), by);
            holds("rule 7: a divisor", tree, isConstant(path) && !isZero(path) || says(by + " > 0") || says(by + " == 0"));
        }
        return super.visitBinary(tree, none);
    }

    @Override
    public Void visitCompoundAssignment(CompoundAssignmentTree tree, Void none) {
        holds("rule 7: a divisor", tree, tree.getKind() != Tree.Kind.DIVIDE_ASSIGNMENT && tree.getKind() != Tree.Kind.REMAINDER_ASSIGNMENT);
        return super.visitCompoundAssignment(tree, none);
    }

    @Override
    public Void visitArrayAccess(ArrayAccessTree tree, Void none) {
        TreePath index = new TreePath(getCurrentPath(), tree.getIndex());
        if (!isConstant(index)) {
            for (String name : namesIn(index)) {
                holds("rule 7: an index that is looked at", tree, says(name + " < ") || says(name + " >= ") || says(name + " > stack.length"));
            }
        }
        return super.visitArrayAccess(tree, none);
    }

    @Override
    public Void visitTypeCast(TypeCastTree tree, Void none) {
        holds("rule 7: a cast of numbers", tree, trees.getTypeMirror(getCurrentPath()).getKind().isPrimitive());
        return super.visitTypeCast(tree, none);
    }

    private boolean says(String words) {
        return method != null && method.toString().contains(words);
    }

    private static Set<String> namesIn(TreePath path) {
        Set<String> names = new TreeSet<>();
        new TreePathScanner<Void, Void>() {
            @Override
            public Void visitIdentifier(IdentifierTree tree, Void none) {
                names.add(tree.getName().toString());
                return null;
            }

            @Override
            public Void visitMemberSelect(com.sun.source.tree.MemberSelectTree tree, Void none) {
                names.add(tree.toString());
                return null;
            }
        }.scan(path, null);
        return names;
    }

    private boolean isZero(TreePath path) {
        boolean told = path.getLeaf() instanceof LiteralTree literal && literal.getValue().equals(0);
        return told || trees.getElement(path) instanceof VariableElement it && Integer.valueOf(0).equals(it.getConstantValue());
    }

    /** Numbers that are not below 0, constants, and sums and products of these. */
    private boolean isConstant(TreePath path) {
        Tree tree = path.getLeaf();
        if (tree instanceof LiteralTree literal) {
            return literal.getValue() instanceof Number;
        }
        if (tree instanceof BinaryTree both) {
            return isConstant(new TreePath(path, both.getLeftOperand())) && isConstant(new TreePath(path, both.getRightOperand()));
        }
        return trees.getElement(path) instanceof VariableElement it && it.getConstantValue() instanceof Integer value && value >= 0;
    }

    // ---- all calls together

    private void library() {
        for (Set<Element> called : calls.values()) {
            for (Element it : called) {
                if (!calls.containsKey(it)) {
                    String owner = it.getEnclosingElement().toString();
                    boolean made = it.getKind() == ElementKind.CONSTRUCTOR && owner.startsWith("HeadCloths");
                    Checks.due("rule 4: " + owner + "." + it, true,
                        made || LIBRARY.getOrDefault(owner, Set.of()).contains(it.getSimpleName().toString()));
                }
            }
        }
    }

    private void depths() {
        Checks.due("methods that were seen", true, methods.size() > 150);
        for (Map.Entry<Element, MethodTree> entry : methods.entrySet()) {
            if (entry.getKey().getModifiers().contains(Modifier.PUBLIC)) {
                Checks.due("rule 11: calls below " + entry.getKey() + " go " + depth(entry.getKey(), new HashSet<>()) + " deep", true,
                    depth(entry.getKey(), new HashSet<>()) <= 8);
            }
            Checks.due("rule 11: parameters of " + entry.getKey(), true, entry.getValue().getParameters().size() <= 7);
        }
    }

    /** A call that goes back to an open one is recursion and does not count. */
    private int depth(Element from, Set<Element> open) {
        int most = 0;
        open.add(from);
        for (Element to : calls.get(from)) {
            if (calls.containsKey(to) && !open.contains(to)) {
                most = Math.max(most, depth(to, open));
            }
        }
        open.remove(from);
        return most + 1;
    }

    /** Whoever comes back to itself is private and carries its depth. */
    private void recursion() {
        int found = 0;
        for (Element it : calls.keySet()) {
            if (reached(it).contains(it)) {
                found++;
                boolean carried = ((ExecutableElement) it).getParameters().stream().anyMatch(p -> p.getSimpleName().contentEquals("depth"));
                Checks.due("rule 8: private, with its depth: " + it, true, carried && it.getModifiers().contains(Modifier.PRIVATE));
            }
        }
        Checks.due("methods that come back to themselves", 4, found);
    }

    private Set<Element> reached(Element from) {
        Set<Element> seen = new LinkedHashSet<>();
        List<Element> todo = new java.util.ArrayList<>(calls.get(from));
        for (int i = 0; i < todo.size(); i++) {
            if (calls.containsKey(todo.get(i)) && seen.add(todo.get(i))) {
                todo.addAll(calls.get(todo.get(i)));
            }
        }
        return seen;
    }
}
