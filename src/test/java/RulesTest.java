import com.sun.source.tree.AssignmentTree;
import com.sun.source.tree.BinaryTree;
import com.sun.source.tree.ClassTree;
import com.sun.source.tree.CompilationUnitTree;
import com.sun.source.tree.CompoundAssignmentTree;
import com.sun.source.tree.ExpressionTree;
import com.sun.source.tree.ForLoopTree;
import com.sun.source.tree.IdentifierTree;
import com.sun.source.tree.MethodInvocationTree;
import com.sun.source.tree.MethodTree;
import com.sun.source.tree.NewArrayTree;
import com.sun.source.tree.NewClassTree;
import com.sun.source.tree.StatementTree;
import com.sun.source.tree.Tree;
import com.sun.source.tree.UnaryTree;
import com.sun.source.tree.VariableTree;
import com.sun.source.util.JavacTask;
import com.sun.source.util.TreePath;
import com.sun.source.util.TreePathScanner;
import com.sun.source.util.TreeScanner;
import com.sun.source.util.Trees;
import java.io.IOException;
import java.nio.file.Path;
import java.util.ArrayList;
import java.util.EnumSet;
import java.util.HashMap;
import java.util.LinkedHashSet;
import java.util.List;
import java.util.Map;
import java.util.Set;
import java.util.TreeMap;
import javax.lang.model.element.Element;
import javax.lang.model.element.ElementKind;
import javax.lang.model.element.Modifier;
import javax.lang.model.element.TypeElement;
import javax.lang.model.element.VariableElement;
import javax.lang.model.type.ArrayType;
import javax.lang.model.type.TypeKind;
import javax.lang.model.type.TypeMirror;
import javax.tools.JavaCompiler;
import javax.tools.StandardJavaFileManager;
import javax.tools.ToolProvider;

/** The rules of LANGUAGE.md on the class as the compiler reads it: what it is made of, whom it calls, how it ends. */
public final class RulesTest extends TreePathScanner<Void, Void> {
    private static final Checks C = new Checks();
    private static final Set<Tree.Kind> LEFT_OUT = EnumSet.of(
        Tree.Kind.THROW, Tree.Kind.TRY, Tree.Kind.CATCH, Tree.Kind.SYNCHRONIZED, Tree.Kind.ASSERT,
        Tree.Kind.LAMBDA_EXPRESSION, Tree.Kind.MEMBER_REFERENCE, Tree.Kind.IMPORT, Tree.Kind.PACKAGE,
        Tree.Kind.WHILE_LOOP, Tree.Kind.DO_WHILE_LOOP, Tree.Kind.ANNOTATION, Tree.Kind.STRING_LITERAL,
        Tree.Kind.DOUBLE_LITERAL, Tree.Kind.FLOAT_LITERAL, Tree.Kind.PARAMETERIZED_TYPE, Tree.Kind.INSTANCE_OF,
        Tree.Kind.RECORD, Tree.Kind.ENUM, Tree.Kind.INTERFACE);
    private static final Set<String> LIBRARY = Set.of("System.arraycopy", "Math.max", "Math.min");
    private static final Set<TypeKind> NUMBERS = EnumSet.of(
        TypeKind.INT, TypeKind.LONG, TypeKind.SHORT, TypeKind.BYTE, TypeKind.BOOLEAN);
    private final Trees trees;
    private final CompilationUnitTree unit;
    private final Map<Element, Set<Element>> calls = new HashMap<>();
    private final Map<String, Integer> depths = new TreeMap<>();
    private int classes = 0;

    private RulesTest(Trees trees, CompilationUnitTree unit) {
        this.trees = trees;
        this.unit = unit;
    }

    public static void main(String[] args) throws IOException {
        JavaCompiler compiler = ToolProvider.getSystemJavaCompiler();
        try (StandardJavaFileManager files = compiler.getStandardFileManager(null, null, null)) {
            JavacTask task = (JavacTask) compiler.getTask(null, files, null, List.of("-proc:none"), null,
                files.getJavaFileObjects(Path.of("src/main/java/NextNames.java")));
            List<CompilationUnitTree> units = new ArrayList<>();
            task.parse().forEach(units::add);
            task.analyze();
            C.due("files", units.size(), 1);
            RulesTest rules = new RulesTest(Trees.instance(task), units.get(0));
            rules.scan(units.get(0), null);
            rules.callsEnd();
            C.holds("rule 11: some twelve classes at most", rules.classes <= 12);
        }
        C.end();
    }

    private String at(Tree tree) {
        long start = trees.getSourcePositions().getStartPosition(unit, tree);
        return "line " + unit.getLineMap().getLineNumber(start) + ": ";
    }

    private Element element(Tree tree) {
        return trees.getElement(TreePath.getPath(unit, tree));
    }

    private TypeMirror type(Tree tree) {
        return trees.getTypeMirror(TreePath.getPath(unit, tree));
    }

    @Override
    public Void scan(Tree tree, Void none) {
        if (tree != null) {
            C.holds(at(tree) + "rules 2 to 6 and 9 leave out " + tree.getKind(), !LEFT_OUT.contains(tree.getKind()));
        }
        return super.scan(tree, none);
    }

    @Override
    public Void visitClass(ClassTree tree, Void none) {
        classes++;
        boolean inside = element(tree).getEnclosingElement().getKind() == ElementKind.CLASS;
        Set<Modifier> modifiers = tree.getModifiers().getFlags();
        C.holds(at(tree) + "rule 2: a class inside stands in the class itself, and is static",
            !inside || modifiers.contains(Modifier.STATIC) && modifiers.contains(Modifier.PRIVATE));
        C.holds(at(tree) + "no class but the document's", inside || tree.getSimpleName().contentEquals("NextNames"));
        long blocks = tree.getMembers().stream().filter(m -> m.getKind() == Tree.Kind.BLOCK).count();
        C.due(at(tree) + "rule 5: blocks that initialise", blocks, 0);
        return super.visitClass(tree, none);
    }

    @Override
    public Void visitMethod(MethodTree tree, Void none) {
        calls.computeIfAbsent(element(tree), e -> new LinkedHashSet<>());
        C.holds(at(tree) + "rule 11: seven parameters at most", tree.getParameters().size() <= 7);
        // A constructor that is not written has no end.
        long end = trees.getSourcePositions().getEndPosition(unit, tree);
        if (end >= 0) {
            long first = unit.getLineMap().getLineNumber(trees.getSourcePositions().getStartPosition(unit, tree));
            C.holds(at(tree) + "rule 11: sixty lines at most", unit.getLineMap().getLineNumber(end) - first < 60);
        }
        return super.visitMethod(tree, none);
    }

    @Override
    public Void visitVariable(VariableTree tree, Void none) {
        TypeMirror type = type(tree);
        if (type.getKind() == TypeKind.ARRAY) {
            type = ((ArrayType) type).getComponentType();
        }
        C.holds(at(tree) + "rule 3: numbers and classes of its own, in rows of one dimension, not " + type,
            NUMBERS.contains(type.getKind()) || type.toString().startsWith("NextNames."));
        boolean isStatic = tree.getModifiers().getFlags().contains(Modifier.STATIC);
        C.holds(at(tree) + "rule 5: a static field is a constant", !isStatic
            || ((VariableElement) element(tree)).getConstantValue() != null);
        return super.visitVariable(tree, none);
    }

    @Override
    public Void visitMethodInvocation(MethodInvocationTree tree, Void none) {
        Element called = element(tree.getMethodSelect());
        Element owner = called.getEnclosingElement();
        if (owner.toString().startsWith("NextNames")) {
            noteCall(called);
        } else if (called.getKind() != ElementKind.CONSTRUCTOR) {
            String name = owner.getSimpleName() + "." + called.getSimpleName();
            C.holds(at(tree) + "rule 4: the library has no " + name + " here", LIBRARY.contains(name));
        }
        return super.visitMethodInvocation(tree, none);
    }

    @Override
    public Void visitNewClass(NewClassTree tree, Void none) {
        C.holds(at(tree) + "rule 2: no class without a name", tree.getClassBody() == null);
        made(tree);
        Element called = element(tree);
        if (called != null) {
            noteCall(called);
        }
        return super.visitNewClass(tree, none);
    }

    @Override
    public Void visitNewArray(NewArrayTree tree, Void none) {
        made(tree);
        return super.visitNewArray(tree, none);
    }

    /** The room is one for all calls: what is made is made with the object. */
    private void made(Tree tree) {
        Element method = around();
        C.holds(at(tree) + "rule 12: it is made with the object",
            method == null || method.getKind() == ElementKind.CONSTRUCTOR);
    }

    /** The method that stands around; null: a field's initialiser. */
    private Element around() {
        for (TreePath p = getCurrentPath(); p != null; p = p.getParentPath()) {
            if (p.getLeaf() instanceof MethodTree) {
                return trees.getElement(p);
            }
        }
        return null;
    }

    private void noteCall(Element called) {
        Element from = around();
        if (from == null) {
            for (TreePath p = getCurrentPath(); from == null && p != null; p = p.getParentPath()) {
                if (p.getLeaf() instanceof ClassTree) {
                    from = constructor((TypeElement) trees.getElement(p));
                }
            }
        }
        calls.computeIfAbsent(from, e -> new LinkedHashSet<>()).add(called);
    }

    private static Element constructor(TypeElement type) {
        for (Element e : type.getEnclosedElements()) {
            if (e.getKind() == ElementKind.CONSTRUCTOR) {
                return e;
            }
        }
        return type;
    }

    @Override
    public Void visitForLoop(ForLoopTree tree, Void none) {
        boolean ends = tree.getInitializer().size() == 1 && tree.getUpdate().size() == 1
            && tree.getInitializer().get(0) instanceof VariableTree;
        if (ends) {
            String counter = ((VariableTree) tree.getInitializer().get(0)).getName().toString();
            String step = tree.getUpdate().get(0).getExpression().toString();
            boolean up = step.equals(counter + "++");
            boolean down = step.equals(counter + "--");
            ends = (up || down) && bounds(tree.getCondition(), counter, up) && !changes(tree.getStatement(), counter);
        }
        C.holds(at(tree) + "rule 9: a counter goes by one against a bound, and nothing else changes it", ends);
        return super.visitForLoop(tree, none);
    }

    private static boolean bounds(ExpressionTree condition, String counter, boolean up) {
        if (!(condition instanceof BinaryTree)) {
            return false;
        }
        BinaryTree both = (BinaryTree) condition;
        if (both.getKind() == Tree.Kind.CONDITIONAL_AND) {
            return bounds(both.getLeftOperand(), counter, up) || bounds(both.getRightOperand(), counter, up);
        }
        Set<Tree.Kind> against = up ? EnumSet.of(Tree.Kind.LESS_THAN, Tree.Kind.LESS_THAN_EQUAL)
            : EnumSet.of(Tree.Kind.GREATER_THAN, Tree.Kind.GREATER_THAN_EQUAL);
        return against.contains(both.getKind()) && both.getLeftOperand().toString().equals(counter);
    }

    private static boolean changes(StatementTree body, String counter) {
        boolean[] found = {false};
        new TreeScanner<Void, Void>() {
            private void change(ExpressionTree of) {
                found[0] |= of instanceof IdentifierTree && of.toString().equals(counter);
            }

            @Override
            public Void visitAssignment(AssignmentTree tree, Void none) {
                change(tree.getVariable());
                return super.visitAssignment(tree, none);
            }

            @Override
            public Void visitCompoundAssignment(CompoundAssignmentTree tree, Void none) {
                change(tree.getVariable());
                return super.visitCompoundAssignment(tree, none);
            }

            @Override
            public Void visitUnary(UnaryTree tree, Void none) {
                String kind = tree.getKind().toString();
                if (kind.endsWith("CREMENT")) {
                    change(tree.getExpression());
                }
                return super.visitUnary(tree, none);
            }
        }.scan(body, null);
        return found[0];
    }

    /** Rules 8 and 11: nothing calls itself, by whatever way, and no call goes deeper than eight. */
    private void callsEnd() {
        int deepest = 0;
        for (Element method : calls.keySet()) {
            int depth = depth(method, new ArrayList<>());
            depths.put(method.getEnclosingElement() + "." + method, depth);
            deepest = Math.max(deepest, depth);
        }
        C.holds("rule 11: calls go eight deep at most, not " + depths, deepest <= 8);
        C.holds("calls were looked at: " + deepest, deepest > 4);
    }

    private int depth(Element method, List<Element> open) {
        if (open.contains(method)) {
            C.holds("rule 8: " + method + " calls itself by " + open, false);
            return 0;
        }
        open.add(method);
        int below = 0;
        for (Element called : calls.getOrDefault(method, Set.of())) {
            below = Math.max(below, depth(called, open));
        }
        open.remove(open.size() - 1);
        return below + 1;
    }
}
