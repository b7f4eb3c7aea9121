import com.sun.source.tree.*;
import com.sun.source.util.JavacTask;
import com.sun.source.util.TreePath;
import com.sun.source.util.TreePathScanner;
import com.sun.source.util.Trees;
import java.io.IOException;
import java.nio.file.Files;
import java.nio.file.Path;
import java.util.ArrayList;
import java.util.HashMap;
import java.util.HashSet;
import java.util.List;
import java.util.Map;
import java.util.Set;
import java.util.TreeSet;
import javax.lang.model.element.Element;
import javax.lang.model.element.ElementKind;
import javax.lang.model.element.Modifier;
import javax.lang.model.element.VariableElement;
import javax.lang.model.type.TypeKind;
import javax.lang.model.type.TypeMirror;
import javax.tools.JavaCompiler;
import javax.tools.StandardJavaFileManager;
import javax.tools.ToolProvider;

/**
 * The rules of LANGUAGE.md, by number, on the program as the compiler reads it. Some are held more narrowly than they are
 * written, for the program needs no more: no recursion, no object made outside constructors, no cast but among numbers.
 */
public final class LanguageTest {
    /** What the program uses; LANGUAGE.md has more, to be added here when it is needed. */
    private static final Set<String> LIBRARY = Set.of(
        "java.lang.String.length", "java.lang.String.charAt", "java.lang.Math.max", "java.lang.Math.min",
        "java.lang.Math.abs", "java.lang.System.arraycopy");
    private static final Set<Tree.Kind> OUTSIDE = Set.of(
        Tree.Kind.THROW, Tree.Kind.TRY, Tree.Kind.CATCH, Tree.Kind.SYNCHRONIZED, Tree.Kind.ASSERT,
        Tree.Kind.LAMBDA_EXPRESSION, Tree.Kind.MEMBER_REFERENCE, Tree.Kind.YIELD, Tree.Kind.SWITCH_EXPRESSION,
        Tree.Kind.IMPORT, Tree.Kind.PACKAGE, Tree.Kind.INSTANCE_OF, Tree.Kind.ANNOTATION, Tree.Kind.TYPE_PARAMETER);
    private static final Set<Tree.Kind> COMPARISONS = Set.of(
        Tree.Kind.LESS_THAN, Tree.Kind.LESS_THAN_EQUAL, Tree.Kind.GREATER_THAN, Tree.Kind.GREATER_THAN_EQUAL);
    private static final Set<Tree.Kind> DIVISIONS = Set.of(
        Tree.Kind.DIVIDE, Tree.Kind.REMAINDER, Tree.Kind.DIVIDE_ASSIGNMENT, Tree.Kind.REMAINDER_ASSIGNMENT);
    private static final int MOST_LINES = 60, MOST_PARAMETERS = 7, MOST_CLASSES = 12, MOST_FIELDS = 20, DEEPEST = 8;

    private static final Due due = new Due("LanguageTest");

    public static void main(String[] args) throws IOException {
        Path file = Path.of(System.getProperty("project.root", "."), "src/main/java/EndlessRoots.java");
        due.holds("3: the source is of signs up to 127", Files.readString(file).chars().allMatch(c -> c < 128));
        JavaCompiler compiler = ToolProvider.getSystemJavaCompiler();
        try (StandardJavaFileManager files = compiler.getStandardFileManager(null, null, null)) {
            JavacTask task = (JavacTask) compiler.getTask(null, files, null, List.of("--release", "17"), null,
                files.getJavaFileObjects(file));
            CompilationUnitTree unit = task.parse().iterator().next();
            task.analyze();
            Reader reader = new Reader(Trees.instance(task), unit);
            reader.scan(new TreePath(unit), null);
            reader.close();
        }
        due.close();
    }

    private static final class Reader extends TreePathScanner<Void, Void> {
        private final Trees trees;
        private final CompilationUnitTree unit;
        private final Map<Element, Set<Element>> calls = new HashMap<>();
        private final Set<String> openNames = new TreeSet<>();
        private final Set<String> hiddenNames = new TreeSet<>();
        private int classes = 0;
        private int loops = 0;
        private int divisions = 0;

        Reader(Trees trees, CompilationUnitTree unit) {
            this.trees = trees;
            this.unit = unit;
        }

        void close() {
            due.holds("1: one class stands in the file", unit.getTypeDecls().size() == 1);
            due.holds("11: at most twelve classes", classes <= MOST_CLASSES);
            hiddenNames.retainAll(openNames);
            due.holds("1: no private method bears the name of a public one: " + hiddenNames, hiddenNames.isEmpty());
            for (Element method : calls.keySet()) {
                int deep = depth(method, new ArrayList<>());
                due.holds("11: calls go at most eight deep from " + method + ": " + deep, deep <= DEEPEST);
            }
            due.holds("methods, loops and divisions were found", calls.size() > 80 && loops > 20 && divisions > 5);
        }

        private int depth(Element method, List<Element> above) {
            due.holds("8: no recursion by " + method, !above.contains(method));
            int deepest = 0;
            if (above.size() < 40 && !above.contains(method)) {
                above.add(method);
                for (Element called : calls.getOrDefault(method, Set.of())) {
                    deepest = Math.max(deepest, depth(called, above));
                }
                above.remove(above.size() - 1);
            }
            return deepest + 1;
        }

        private String where(Tree tree) {
            long at = trees.getSourcePositions().getStartPosition(unit, tree);
            return " (line " + (at < 0 ? 0 : unit.getLineMap().getLineNumber(at)) + ")";
        }

        private TypeMirror typeOf(Tree tree) {
            return trees.getTypeMirror(TreePath.getPath(unit, tree));
        }

        private Element elementOf(Tree tree) {
            return trees.getElement(TreePath.getPath(unit, tree));
        }

        @Override
        public Void scan(Tree tree, Void none) {
            if (tree != null && OUTSIDE.contains(tree.getKind())) {
                due.holds("2, 4, 6: the program has no " + tree.getKind() + where(tree), false);
            }
            return super.scan(tree, none);
        }

        @Override
        public Void visitClass(ClassTree tree, Void none) {
            classes++;
            Tree around = getCurrentPath().getParentPath().getLeaf();
            Set<Modifier> marks = tree.getModifiers().getFlags();
            boolean outermost = around instanceof CompilationUnitTree;
            due.holds("2: no local or anonymous class" + where(tree), outermost || around instanceof ClassTree);
            due.holds("1, 2: a class inside is static, and private or package-visible" + where(tree), outermost
                || marks.contains(Modifier.STATIC) && !marks.contains(Modifier.PUBLIC) && !marks.contains(Modifier.PROTECTED));
            int held = 0;
            for (Tree member : tree.getMembers()) {
                due.holds("5: no initialiser block" + where(member), !(member instanceof BlockTree));
                if (member instanceof VariableTree field) {
                    boolean shared = field.getModifiers().getFlags().contains(Modifier.STATIC);
                    held += shared ? 0 : 1;
                    due.holds("5: a static field is a constant: " + field, !shared || isConstant(field));
                }
            }
            due.holds("11: at most twenty fields" + where(tree), held <= MOST_FIELDS);
            return super.visitClass(tree, none);
        }

        private boolean isConstant(VariableTree field) {
            Object value = ((VariableElement) elementOf(field)).getConstantValue();
            return field.getModifiers().getFlags().contains(Modifier.FINAL) && value != null;
        }

        @Override
        public Void visitMethod(MethodTree tree, Void none) {
            Element method = elementOf(tree);
            calls.putIfAbsent(method, new HashSet<>());
            if (method.getKind() == ElementKind.METHOD) {
                keepName(tree.getName().toString(), tree.getModifiers().getFlags());
            }
            due.holds("11: at most seven parameters: " + method, tree.getParameters().size() <= MOST_PARAMETERS);
            LineMap lines = unit.getLineMap();
            long from = trees.getSourcePositions().getStartPosition(unit, tree);
            long to = trees.getSourcePositions().getEndPosition(unit, tree);
            due.holds("11: methods stay short: " + method,
                to < 0 || lines.getLineNumber(to) - lines.getLineNumber(from) < MOST_LINES);
            return super.visitMethod(tree, none);
        }

        private void keepName(String name, Set<Modifier> marks) {
            if (marks.contains(Modifier.PRIVATE)) {
                hiddenNames.add(name);
            } else if (marks.contains(Modifier.PUBLIC)) {
                openNames.add(name);
            }
            due.holds("6: no own " + name, !Set.of("equals", "hashCode", "toString", "finalize").contains(name));
        }

        @Override
        public Void visitVariable(VariableTree tree, Void none) {
            due.holds("3: the type of " + tree, isAllowed(elementOf(tree).asType()));
            return super.visitVariable(tree, none);
        }

        private boolean isAllowed(TypeMirror type) {
            if (type.getKind() == TypeKind.ARRAY) {
                return Set.of("int[]", "long[]").contains(type.toString());
            }
            return Set.of(TypeKind.INT, TypeKind.LONG, TypeKind.BOOLEAN).contains(type.getKind())
                || type.toString().equals("java.lang.String") || type.toString().startsWith("EndlessRoots.");
        }

        @Override
        public Void visitMethodInvocation(MethodInvocationTree tree, Void none) {
            Element called = elementOf(tree);
            String owner = called.getEnclosingElement().toString();
            boolean own = owner.startsWith("EndlessRoots");
            if (own) {
                calls.get(elementOf(methodAround())).add(called);
            } else if (called.getKind() == ElementKind.METHOD) {
                due.holds("4: the library has " + owner + "." + called.getSimpleName() + where(tree),
                    LIBRARY.contains(owner + "." + called.getSimpleName()));
            }
            return super.visitMethodInvocation(tree, none);
        }

        private Tree methodAround() {
            TreePath path = getCurrentPath();
            while (path != null && !(path.getLeaf() instanceof MethodTree)) {
                path = path.getParentPath();
            }
            return path == null ? unit : path.getLeaf();
        }

        private boolean isInConstructor() {
            Tree around = methodAround();
            return !(around instanceof MethodTree method) || method.getReturnType() == null;
        }

        @Override
        public Void visitNewClass(NewClassTree tree, Void none) {
            due.holds("12: an object is made in a constructor" + where(tree), isInConstructor());
            due.holds("2: no anonymous class" + where(tree), tree.getClassBody() == null);
            return super.visitNewClass(tree, none);
        }

        @Override
        public Void visitNewArray(NewArrayTree tree, Void none) {
            due.holds("12: an array is made in a constructor" + where(tree), isInConstructor());
            return super.visitNewArray(tree, none);
        }

        @Override
        public Void visitTypeCast(TypeCastTree tree, Void none) {
            due.holds("6, 7: a cast is among numbers" + where(tree), typeOf(tree.getType()).getKind().isPrimitive());
            return super.visitTypeCast(tree, none);
        }

        @Override
        public Void visitForLoop(ForLoopTree tree, Void none) {
            hasEnd(tree, tree.getCondition());
            return super.visitForLoop(tree, none);
        }

        @Override
        public Void visitWhileLoop(WhileLoopTree tree, Void none) {
            hasEnd(tree, tree.getCondition());
            return super.visitWhileLoop(tree, none);
        }

        @Override
        public Void visitDoWhileLoop(DoWhileLoopTree tree, Void none) {
            hasEnd(tree, tree.getCondition());
            return super.visitDoWhileLoop(tree, none);
        }

        /** A counter against a bound, joined to whatever else by 'and' alone: then the loop ends when the counter is there. */
        private void hasEnd(Tree loop, ExpressionTree condition) {
            loops++;
            boolean found = false;
            for (ExpressionTree part : partsOf(condition)) {
                found |= part != null && COMPARISONS.contains(part.getKind());
            }
            due.holds("9: a loop has a counter against a bound" + where(loop), found);
        }

        private List<ExpressionTree> partsOf(ExpressionTree condition) {
            List<ExpressionTree> parts = new ArrayList<>();
            if (condition instanceof ParenthesizedTree around) {
                parts.addAll(partsOf(around.getExpression()));
            } else if (condition instanceof BinaryTree both && both.getKind() == Tree.Kind.CONDITIONAL_AND) {
                parts.addAll(partsOf(both.getLeftOperand()));
                parts.addAll(partsOf(both.getRightOperand()));
            } else {
                parts.add(condition);
            }
            return parts;
        }

        @Override
        public Void visitBinary(BinaryTree tree, Void none) {
            due.holds("10: texts aren't joined by +" + where(tree), typeOf(tree).getKind() != TypeKind.DECLARED);
            if (tree.getKind() == Tree.Kind.EQUAL_TO || tree.getKind() == Tree.Kind.NOT_EQUAL_TO) {
                due.holds("6: == of numbers alone" + where(tree), typeOf(tree.getLeftOperand()).getKind().isPrimitive()
                    && typeOf(tree.getRightOperand()).getKind().isPrimitive());
            }
            if (DIVISIONS.contains(tree.getKind())) {
                isLookedAt(tree, tree.getRightOperand());
            }
            return super.visitBinary(tree, none);
        }

        @Override
        public Void visitCompoundAssignment(CompoundAssignmentTree tree, Void none) {
            due.holds("10: texts aren't joined by +=" + where(tree), typeOf(tree).getKind().isPrimitive());
            if (DIVISIONS.contains(tree.getKind())) {
                isLookedAt(tree, tree.getExpression());
            }
            return super.visitCompoundAssignment(tree, none);
        }

        /** A constant other than 0, the counter of a loop that begins above 0 and goes up, or held against 0 in its method. */
        private void isLookedAt(Tree division, ExpressionTree divisor) {
            divisions++;
            String name = divisor.toString();
            String method = methodAround().toString().replaceAll("\\s+", " ");
            boolean so = name.matches("[1-9][0-9]*") || isConstantOtherThanZero(elementOf(divisor))
                || method.matches(".*\\(int " + name + " = [1-9][0-9]*; " + name + " <[^;]*; " + name + "\\+\\+\\).*")
                || method.matches(".*\\b" + name + " [!=]= 0\\b.*");
            due.holds("7: a divisor is looked at before it divides: " + division + where(division),
                so && name.matches("[A-Za-z0-9]+"));
        }

        private boolean isConstantOtherThanZero(Element element) {
            return element instanceof VariableElement constant && constant.getConstantValue() instanceof Integer n && n != 0;
        }
    }
}
