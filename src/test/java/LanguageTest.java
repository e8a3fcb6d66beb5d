import com.sun.source.tree.AssertTree;
import com.sun.source.tree.BinaryTree;
import com.sun.source.tree.BlockTree;
import com.sun.source.tree.ClassTree;
import com.sun.source.tree.CompilationUnitTree;
import com.sun.source.tree.CompoundAssignmentTree;
import com.sun.source.tree.DoWhileLoopTree;
import com.sun.source.tree.ForLoopTree;
import com.sun.source.tree.InstanceOfTree;
import com.sun.source.tree.LambdaExpressionTree;
import com.sun.source.tree.MemberReferenceTree;
import com.sun.source.tree.MethodInvocationTree;
import com.sun.source.tree.MethodTree;
import com.sun.source.tree.NewArrayTree;
import com.sun.source.tree.NewClassTree;
import com.sun.source.tree.SynchronizedTree;
import com.sun.source.tree.ThrowTree;
import com.sun.source.tree.Tree;
import com.sun.source.tree.TryTree;
import com.sun.source.tree.TypeCastTree;
import com.sun.source.tree.VariableTree;
import com.sun.source.tree.WhileLoopTree;
import com.sun.source.util.JavacTask;
import com.sun.source.util.TreePath;
import com.sun.source.util.TreePathScanner;
import com.sun.source.util.Trees;
import java.nio.file.Path;
import java.util.List;
import java.util.Map;
import java.util.Set;
import java.util.TreeMap;
import java.util.TreeSet;
import javax.lang.model.element.Element;
import javax.lang.model.element.ElementKind;
import javax.lang.model.element.Modifier;
import javax.lang.model.type.ArrayType;
import javax.lang.model.type.TypeKind;
import javax.lang.model.type.TypeMirror;
import javax.tools.JavaCompiler;
import javax.tools.StandardJavaFileManager;
import javax.tools.ToolProvider;

/**
 * The rules of LANGUAGE.md that can be read off the program's tree, as javac makes it. Where the program needs less
 * than a rule allows, the test asks for that less: no loop but for, no object outside constructors and fields.
 */
public final class LanguageTest {
    private static final Path PROGRAM = Path.of("src/main/java/PartyWill.java");
    private static final Set<String> LIBRARY = Set.of(
        "java.lang.Math.max", "java.lang.Math.min", "java.lang.Integer.bitCount", "java.lang.System.arraycopy");
    private static final int PARAMETERS_MOST = 7, LINES_MOST = 60, DEPTH_MOST = 8, CLASSES_MOST = 12, FIELDS_MOST = 20;

    public static void main(String[] args) throws Exception {
        JavaCompiler compiler = ToolProvider.getSystemJavaCompiler();
        try (StandardJavaFileManager files = compiler.getStandardFileManager(null, null, null)) {
            JavacTask task = (JavacTask) compiler.getTask(null, files, null, List.of("-proc:none"), null,
                files.getJavaFileObjects(PROGRAM));
            CompilationUnitTree unit = task.parse().iterator().next();
            task.analyze();
            Checks.due("rule 1: a package line", unit.getPackageName() == null ? 0 : 1, 0);
            Checks.due("rule 4: imports", unit.getImports().size(), 0);
            Checks.due("rule 1: classes that stand alone", unit.getTypeDecls().size(), 1);
            Reading reading = new Reading(unit, Trees.instance(task));
            reading.scan(unit, null);
            reading.asAWhole();
        }
        Checks.end();
    }

    /** Goes through the tree once, checks what stands in one place, and notes who calls whom. */
    private static final class Reading extends TreePathScanner<Void, Void> {
        private final CompilationUnitTree unit;
        private final Trees trees;
        private final Map<String, Set<String>> calls = new TreeMap<>();
        private final Map<String, Set<Modifier>> methods = new TreeMap<>();
        private final Set<String> publicNames = new TreeSet<>();
        private int classes = 0;
        private String method = "";

        private Reading(CompilationUnitTree unit, Trees trees) {
            this.unit = unit;
            this.trees = trees;
        }

        private void never(int rule, String what, Tree where) {
            Checks.due("rule " + rule + ": " + what + ", line " + line(where), 1, 0);
        }

        private void must(int rule, String what, Tree where, boolean holds) {
            Checks.due("rule " + rule + ": " + what + ", line " + line(where), holds ? 1 : 0, 1);
        }

        private long line(Tree tree) {
            return unit.getLineMap().getLineNumber(trees.getSourcePositions().getStartPosition(unit, tree));
        }

        private Element element(Tree tree) {
            return trees.getElement(TreePath.getPath(unit, tree));
        }

        private TypeMirror type(Tree tree) {
            return trees.getTypeMirror(TreePath.getPath(unit, tree));
        }

        private boolean isIn(Tree.Kind kind) {
            for (TreePath p = getCurrentPath().getParentPath(); p != null; p = p.getParentPath()) {
                if (p.getLeaf().getKind() == kind) {
                    return true;
                }
            }
            return false;
        }

        @Override
        public Void visitClass(ClassTree tree, Void v) {
            classes++;
            Set<Modifier> flags = tree.getModifiers().getFlags();
            boolean inside = isIn(Tree.Kind.CLASS);
            must(1, tree.getSimpleName() + "'s modifiers", tree, inside
                ? flags.contains(Modifier.STATIC) && !flags.contains(Modifier.PUBLIC)
                    && !flags.contains(Modifier.PROTECTED)
                : flags.equals(Set.of(Modifier.PUBLIC, Modifier.FINAL)));
            must(2, "a class outside methods", tree, !isIn(Tree.Kind.METHOD));
            int fields = 0;
            for (Tree member : tree.getMembers()) {
                if (member instanceof BlockTree) {
                    never(5, "an initialiser block", member);
                }
                boolean isField = member instanceof VariableTree;
                fields += isField && !element(member).getModifiers().contains(Modifier.STATIC) ? 1 : 0;
                if (inside && element(member) != null) {
                    must(1, "a member inside is not public", member,
                        !element(member).getModifiers().contains(Modifier.PUBLIC));
                }
            }
            must(11, "fields of " + tree.getSimpleName(), tree, fields <= FIELDS_MOST);
            return super.visitClass(tree, v);
        }

        @Override
        public Void visitMethod(MethodTree tree, Void v) {
            Element e = element(tree);
            method = e.getEnclosingElement().getSimpleName() + "." + tree.getName();
            methods.put(method, e.getModifiers());
            calls.computeIfAbsent(method, m -> new TreeSet<>());
            if (e.getKind() == ElementKind.METHOD && e.getModifiers().contains(Modifier.PUBLIC)) {
                publicNames.add(tree.getName().toString());
            }
            must(11, "parameters of " + method, tree, tree.getParameters().size() <= PARAMETERS_MOST);
            long end = trees.getSourcePositions().getEndPosition(unit, tree);
            must(11, "lines of " + method, tree,
                end < 0 || unit.getLineMap().getLineNumber(end) - line(tree) < LINES_MOST);
            if (tree.getReturnType() != null && type(tree.getReturnType()).getKind() != TypeKind.VOID) {
                allowed(tree.getReturnType());
            }
            super.visitMethod(tree, v);
            method = "";
            return null;
        }

        private void allowed(Tree tree) {
            TypeMirror element = type(tree);
            int dimensions = 0;
            while (element instanceof ArrayType array) {
                element = array.getComponentType();
                dimensions++;
            }
            boolean own = element.toString().startsWith("PartyWill");
            boolean whole = Set.of(TypeKind.INT, TypeKind.LONG, TypeKind.BYTE, TypeKind.BOOLEAN)
                .contains(element.getKind());
            must(3, "type " + tree, tree, whole && dimensions <= 2 || own && dimensions <= 1);
        }

        @Override
        public Void visitVariable(VariableTree tree, Void v) {
            Element e = element(tree);
            allowed(tree.getType());
            if (e.getKind() == ElementKind.FIELD && e.getModifiers().contains(Modifier.STATIC)) {
                must(5, tree.getName() + " is final", tree, e.getModifiers().contains(Modifier.FINAL));
                must(5, tree.getName() + " is a number", tree, type(tree.getType()).getKind().isPrimitive());
            }
            return super.visitVariable(tree, v);
        }

        @Override
        public Void visitMethodInvocation(MethodInvocationTree tree, Void v) {
            Element called = element(tree.getMethodSelect());
            String owner = called.getEnclosingElement().toString();
            boolean isOwn = owner.startsWith("PartyWill");
            if (called.getKind() == ElementKind.METHOD && isOwn) {
                String name = called.getEnclosingElement().getSimpleName() + "." + called.getSimpleName();
                calls.computeIfAbsent(method, m -> new TreeSet<>()).add(name);
            } else if (called.getKind() == ElementKind.METHOD) {
                String name = owner + "." + called.getSimpleName();
                must(4, name, tree, LIBRARY.contains(name));
            }
            return super.visitMethodInvocation(tree, v);
        }

        private void makes(Tree tree) {
            must(12, "made by a constructor or a field", tree, method.isEmpty() || method.endsWith("<init>"));
        }

        @Override
        public Void visitNewClass(NewClassTree tree, Void v) {
            makes(tree);
            must(2, "no anonymous class", tree, tree.getClassBody() == null);
            must(4, "an own class", tree, type(tree).toString().startsWith("PartyWill"));
            return super.visitNewClass(tree, v);
        }

        @Override
        public Void visitNewArray(NewArrayTree tree, Void v) {
            makes(tree);
            return super.visitNewArray(tree, v);
        }

        @Override
        public Void visitForLoop(ForLoopTree tree, Void v) {
            must(9, "a for with its end", tree, tree.getCondition() != null && !tree.getUpdate().isEmpty());
            return super.visitForLoop(tree, v);
        }

        @Override
        public Void visitWhileLoop(WhileLoopTree tree, Void v) {
            never(9, "while", tree);
            return super.visitWhileLoop(tree, v);
        }

        @Override
        public Void visitDoWhileLoop(DoWhileLoopTree tree, Void v) {
            never(9, "do", tree);
            return super.visitDoWhileLoop(tree, v);
        }

        @Override
        public Void visitTypeCast(TypeCastTree tree, Void v) {
            must(6, "a cast of numbers", tree, type(tree.getType()).getKind().isPrimitive());
            return super.visitTypeCast(tree, v);
        }

        @Override
        public Void visitBinary(BinaryTree tree, Void v) {
            boolean numbers = type(tree.getLeftOperand()).getKind().isPrimitive()
                && type(tree.getRightOperand()).getKind().isPrimitive();
            must(6, "an operation on numbers", tree, numbers);
            if (tree.getKind() == Tree.Kind.DIVIDE || tree.getKind() == Tree.Kind.REMAINDER) {
                divides(tree, tree.getRightOperand());
            }
            return super.visitBinary(tree, v);
        }

        @Override
        public Void visitCompoundAssignment(CompoundAssignmentTree tree, Void v) {
            if (tree.getKind() == Tree.Kind.DIVIDE_ASSIGNMENT || tree.getKind() == Tree.Kind.REMAINDER_ASSIGNMENT) {
                divides(tree, tree.getExpression());
            }
            return super.visitCompoundAssignment(tree, v);
        }

        /** A divisor is a number told, or a variable that its method tests against 0. */
        private void divides(Tree tree, Tree divisor) {
            boolean isTold = divisor.getKind() == Tree.Kind.INT_LITERAL;
            Element e = element(divisor);
            boolean isConstant = e != null && e.getModifiers().containsAll(Set.of(Modifier.STATIC, Modifier.FINAL));
            boolean isTested = false;
            for (TreePath p = getCurrentPath(); p != null; p = p.getParentPath()) {
                isTested |= p.getLeaf() instanceof MethodTree
                    && p.getLeaf().toString().contains("if (") && p.getLeaf().toString().contains(divisor + " <= 0");
            }
            must(7, "divisor " + divisor, tree, isTold || isConstant || isTested);
        }

        @Override
        public Void visitLambdaExpression(LambdaExpressionTree tree, Void v) {
            never(2, "a lambda", tree);
            return super.visitLambdaExpression(tree, v);
        }

        @Override
        public Void visitMemberReference(MemberReferenceTree tree, Void v) {
            never(2, "a method reference", tree);
            return super.visitMemberReference(tree, v);
        }

        @Override
        public Void visitThrow(ThrowTree tree, Void v) {
            never(6, "throw", tree);
            return super.visitThrow(tree, v);
        }

        @Override
        public Void visitTry(TryTree tree, Void v) {
            never(6, "try", tree);
            return super.visitTry(tree, v);
        }

        @Override
        public Void visitSynchronized(SynchronizedTree tree, Void v) {
            never(6, "synchronized", tree);
            return super.visitSynchronized(tree, v);
        }

        @Override
        public Void visitAssert(AssertTree tree, Void v) {
            never(6, "assert", tree);
            return super.visitAssert(tree, v);
        }

        @Override
        public Void visitInstanceOf(InstanceOfTree tree, Void v) {
            never(6, "instanceof", tree);
            return super.visitInstanceOf(tree, v);
        }

        private void asAWhole() {
            Checks.due("rule 11: " + classes + " classes", classes <= CLASSES_MOST ? 1 : 0, 1);
            for (Map.Entry<String, Set<Modifier>> m : methods.entrySet()) {
                String name = m.getKey().substring(m.getKey().indexOf('.') + 1);
                boolean isPublic = m.getValue().contains(Modifier.PUBLIC);
                Checks.due("rule 1: " + m.getKey() + " bears a public name",
                    !isPublic && publicNames.contains(name) ? 1 : 0, 0);
                boolean recurs = reach(m.getKey()).contains(m.getKey());
                Checks.due("rule 8: " + m.getKey() + ", recursion of what is not private and static",
                    recurs && !m.getValue().containsAll(Set.of(Modifier.PRIVATE, Modifier.STATIC)) ? 1 : 0, 0);
                int depth = depth(m.getKey());
                Checks.due("rule 11: " + m.getKey() + " goes " + depth + " deep", depth <= DEPTH_MOST ? 1 : 0, 1);
            }
        }

        /** Whom a method calls, and whom these call, and so on. */
        private Set<String> reach(String from) {
            Set<String> reached = new TreeSet<>();
            List<String> open = new java.util.ArrayList<>(List.of(from));
            while (!open.isEmpty()) {
                for (String called : calls.getOrDefault(open.remove(open.size() - 1), Set.of())) {
                    if (reached.add(called)) {
                        open.add(called);
                    }
                }
            }
            return reached;
        }

        /** How many methods stand open at once, those that call one another in a ring counted once. */
        private int depth(String from) {
            Set<String> ring = new TreeSet<>(Set.of(from));
            for (String other : reach(from)) {
                if (reach(other).contains(from)) {
                    ring.add(other);
                }
            }
            int deepest = 0;
            for (String one : ring) {
                for (String called : calls.getOrDefault(one, Set.of())) {
                    if (!ring.contains(called)) {
                        deepest = Math.max(deepest, depth(called));
                    }
                }
            }
            return 1 + deepest;
        }
    }
}
