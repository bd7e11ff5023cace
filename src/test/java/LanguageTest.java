import com.sun.source.tree.BinaryTree;
import com.sun.source.tree.ClassTree;
import com.sun.source.tree.CompilationUnitTree;
import com.sun.source.tree.CompoundAssignmentTree;
import com.sun.source.tree.ExpressionTree;
import com.sun.source.tree.MethodInvocationTree;
import com.sun.source.tree.MethodTree;
import com.sun.source.tree.NewArrayTree;
import com.sun.source.tree.NewClassTree;
import com.sun.source.tree.ThrowTree;
import com.sun.source.tree.Tree;
import com.sun.source.tree.VariableTree;
import com.sun.source.util.JavacTask;
import com.sun.source.util.TreePath;
import com.sun.source.util.TreePathScanner;
import com.sun.source.util.Trees;
import java.io.File;
import java.io.IOException;
import java.nio.file.Files;
import java.nio.file.Path;
import java.util.EnumSet;
import java.util.HashMap;
import java.util.HashSet;
import java.util.List;
import java.util.Map;
import java.util.Set;
import java.util.TreeSet;
import javax.lang.model.element.Element;
import javax.lang.model.element.ElementKind;
import javax.lang.model.element.Modifier;
import javax.lang.model.element.VariableElement;
import javax.lang.model.type.TypeKind;
import javax.tools.JavaCompiler;
import javax.tools.StandardJavaFileManager;
import javax.tools.ToolProvider;

/** What LANGUAGE.md asks of the source, as far as the compiler's own trees tell it; in some points more than is asked. */
public final class LanguageTest {
    private static final Path SOURCE = Path.of("src/main/java/TowerFields.java");
    private static final int MOST_LINES = 60;
    private static final int MOST_CLASSES = 12;
    private static final int MOST_FIELDS = 20;
    private static final int MOST_PARAMETERS = 7;
    private static final int MOST_DEPTH = 8;

    /** Rules 2, 6, 8 and 10; of what is allowed there, what this class does without is left out here too. */
    private static final Set<Tree.Kind> NOT_USED = EnumSet.of(Tree.Kind.LAMBDA_EXPRESSION, Tree.Kind.MEMBER_REFERENCE,
        Tree.Kind.TRY, Tree.Kind.CATCH, Tree.Kind.SYNCHRONIZED, Tree.Kind.ASSERT, Tree.Kind.INSTANCE_OF,
        Tree.Kind.TYPE_CAST, Tree.Kind.SWITCH_EXPRESSION, Tree.Kind.IMPORT, Tree.Kind.PACKAGE, Tree.Kind.ANNOTATION,
        Tree.Kind.DOUBLE_LITERAL, Tree.Kind.FLOAT_LITERAL, Tree.Kind.PARAMETERIZED_TYPE);

    private static final Set<String> LIBRARY = Set.of("java.lang.Math.max", "java.lang.Math.min");
    private static final Set<String> THROWN = Set.of("IllegalStateException", "IllegalArgumentException",
        "IndexOutOfBoundsException", "ArithmeticException");

    private static int wrong = 0;

    private final Trees trees;
    private final CompilationUnitTree unit;
    private final Map<Element, Set<Element>> calls = new HashMap<>();
    private final Map<Element, Integer> depths = new HashMap<>();
    private final Set<Element> open = new HashSet<>();

    private LanguageTest(Trees trees, CompilationUnitTree unit) {
        this.trees = trees;
        this.unit = unit;
    }

    private static void check(boolean holds, String what) {
        if (!holds) {
            wrong++;
            System.out.println("LanguageTest: " + what);
        }
    }

    private long line(Tree tree) {
        return unit.getLineMap().getLineNumber(trees.getSourcePositions().getStartPosition(unit, tree));
    }

    private long lastLine(Tree tree) {
        return unit.getLineMap().getLineNumber(trees.getSourcePositions().getEndPosition(unit, tree));
    }

    private final class Reader extends TreePathScanner<Void, Void> {
        private MethodTree method;

        @Override
        public Void scan(Tree tree, Void none) {
            if (tree != null) {
                boolean residue = tree.getKind() == Tree.Kind.TYPE_CAST && tree.toString().startsWith("(int)");
                check(residue || !NOT_USED.contains(tree.getKind()), "line " + line(tree) + " has " + tree.getKind());
            }
            return super.scan(tree, none);
        }

        @Override
        public Void visitClass(ClassTree tree, Void none) {
            int fields = 0;
            for (Tree member : tree.getMembers()) {
                boolean field = member instanceof VariableTree;
                boolean constant = field && ((VariableTree) member).getModifiers().getFlags().contains(Modifier.STATIC);
                fields += field && !constant ? 1 : 0;
                check(member.getKind() != Tree.Kind.BLOCK, "line " + line(member) + " has an initialiser block");
            }
            check(fields <= MOST_FIELDS, tree.getSimpleName() + " has " + fields + " fields");
            return super.visitClass(tree, none);
        }

        @Override
        public Void visitMethod(MethodTree tree, Void none) {
            method = tree;
            calls.put(trees.getElement(getCurrentPath()), new HashSet<>());
            check(tree.getParameters().size() <= MOST_PARAMETERS, tree.getName() + " has too many parameters");
            check(lastLine(tree) - line(tree) < MOST_LINES, tree.getName() + " is too long");
            super.visitMethod(tree, none);
            method = null;
            return null;
        }

        /** Rules 3 and 5. */
        @Override
        public Void visitVariable(VariableTree tree, Void none) {
            Element element = trees.getElement(getCurrentPath());
            String type = element.asType().toString().replace("TowerFields.", "");
            check(type.matches("(int|long|boolean|Line|Poly|Divisor)(\\[\\])?"), "line " + line(tree) + " has " + type);
            if (element.getKind() == ElementKind.FIELD && element.getModifiers().contains(Modifier.STATIC)) {
                check(((VariableElement) element).getConstantValue() != null, tree.getName() + " is a constant");
            }
            return super.visitVariable(tree, none);
        }

        @Override
        public Void visitMethodInvocation(MethodInvocationTree tree, Void none) {
            Element called = trees.getElement(new TreePath(getCurrentPath(), tree.getMethodSelect()));
            String owner = called.getEnclosingElement().toString();
            String name = owner + "." + called.getSimpleName();
            check(owner.startsWith("TowerFields") || owner.equals("java.lang.Object") && name.endsWith("<init>")
                || LIBRARY.contains(name), "line " + line(tree) + " calls " + name);
            if (method != null) {
                calls.get(trees.getElement(trees.getPath(unit, method))).add(called);
            }
            return super.visitMethodInvocation(tree, none);
        }

        /** Rule 12, and more: after its constructor an object makes nothing but exceptions. */
        @Override
        public Void visitNewClass(NewClassTree tree, Void none) {
            boolean thrown = getCurrentPath().getParentPath().getLeaf() instanceof ThrowTree;
            check(tree.getClassBody() == null, "line " + line(tree) + " has a class without a name");
            check(thrown || making(), "line " + line(tree) + " makes an object in a call");
            return super.visitNewClass(tree, none);
        }

        @Override
        public Void visitNewArray(NewArrayTree tree, Void none) {
            check(making(), "line " + line(tree) + " makes an array in a call");
            return super.visitNewArray(tree, none);
        }

        private boolean making() {
            return method == null || method.getReturnType() == null;
        }

        /** Rule 6. */
        @Override
        public Void visitThrow(ThrowTree tree, Void none) {
            boolean made = tree.getExpression() instanceof NewClassTree;
            String name = made ? ((NewClassTree) tree.getExpression()).getIdentifier().toString() : "";
            check(THROWN.contains(name), "line " + line(tree) + " throws " + tree.getExpression());
            check(method != null && method.getReturnType() != null, "line " + line(tree) + " throws in a constructor");
            return super.visitThrow(tree, none);
        }

        @Override
        public Void visitBinary(BinaryTree tree, Void none) {
            checkDivisor(tree, tree.getKind() == Tree.Kind.DIVIDE || tree.getKind() == Tree.Kind.REMAINDER,
                tree.getRightOperand());
            TreePath path = getCurrentPath();
            boolean text = trees.getTypeMirror(path).getKind() == TypeKind.DECLARED;
            check(!text, "line " + line(tree) + " joins texts");
            return super.visitBinary(tree, none);
        }

        @Override
        public Void visitCompoundAssignment(CompoundAssignmentTree tree, Void none) {
            boolean divides = tree.getKind() == Tree.Kind.DIVIDE_ASSIGNMENT
                || tree.getKind() == Tree.Kind.REMAINDER_ASSIGNMENT;
            checkDivisor(tree, divides, tree.getExpression());
            return super.visitCompoundAssignment(tree, none);
        }

        /** Rule 7: a divisor is a constant, and not 0. */
        private void checkDivisor(Tree tree, boolean divides, ExpressionTree divisor) {
            Element element = divides ? trees.getElement(new TreePath(getCurrentPath(), divisor)) : null;
            Object value = element instanceof VariableElement ? ((VariableElement) element).getConstantValue() : null;
            check(!divides || value instanceof Integer && (Integer) value != 0, "line " + line(tree) + " divides");
        }
    }

    /** Rules 8 and 11: no recursion at all, and calls at most eight deep. */
    private int depth(Element method) {
        if (depths.containsKey(method)) {
            return depths.get(method);
        }
        check(open.add(method), method + " calls itself");
        int deepest = 0;
        for (Element called : calls.getOrDefault(method, Set.of())) {
            boolean own = calls.containsKey(called) && !open.contains(called);
            deepest = Math.max(deepest, own ? depth(called) : 0);
            check(!open.contains(called), called + " is called by itself");
        }
        open.remove(method);
        depths.put(method, deepest + 1);
        return deepest + 1;
    }

    private void run() {
        new Reader().scan(unit, null);
        for (Element method : calls.keySet()) {
            check(depth(method) <= MOST_DEPTH, method + " goes " + depth(method) + " deep");
        }
        check(calls.size() > 40, "the methods were read");
    }

    private static void checkSigns() throws IOException {
        List<String> lines = Files.readAllLines(SOURCE);
        for (int i = 0; i < lines.size(); i++) {
            boolean plain = lines.get(i).chars().allMatch(sign -> sign >= 1 && sign <= 127);
            check(plain, "line " + (i + 1) + " has other signs");
        }
    }

    private static int classes(ClassTree tree) {
        int all = 1;
        for (Tree member : tree.getMembers()) {
            all += member instanceof ClassTree ? classes((ClassTree) member) : 0;
        }
        return all;
    }

    public static void main(String[] args) throws IOException {
        JavaCompiler compiler = ToolProvider.getSystemJavaCompiler();
        StandardJavaFileManager files = compiler.getStandardFileManager(null, null, null);
        JavacTask task = (JavacTask) compiler.getTask(null, files, null, List.of("-proc:none"), null,
            files.getJavaFileObjects(new File(SOURCE.toString())));
        TreeSet<String> tops = new TreeSet<>();
        for (CompilationUnitTree unit : task.parse()) {
            task.analyze();
            for (Tree type : unit.getTypeDecls()) {
                tops.add(((ClassTree) type).getSimpleName().toString());
                check(classes((ClassTree) type) <= MOST_CLASSES, "too many classes");
            }
            new LanguageTest(Trees.instance(task), unit).run();
        }
        check(tops.equals(Set.of("TowerFields")), "the file has " + tops);
        checkSigns();
        System.out.println("LanguageTest: " + wrong + " wrong");
        if (wrong > 0) {
            System.exit(1);
        }
    }
}
