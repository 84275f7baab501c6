import com.sun.source.tree.AssertTree;
import com.sun.source.tree.BinaryTree;
import com.sun.source.tree.BlockTree;
import com.sun.source.tree.ClassTree;
import com.sun.source.tree.CompilationUnitTree;
import com.sun.source.tree.DoWhileLoopTree;
import com.sun.source.tree.ForLoopTree;
import com.sun.source.tree.ImportTree;
import com.sun.source.tree.InstanceOfTree;
import com.sun.source.tree.LambdaExpressionTree;
import com.sun.source.tree.LiteralTree;
import com.sun.source.tree.MemberReferenceTree;
import com.sun.source.tree.MethodInvocationTree;
import com.sun.source.tree.MethodTree;
import com.sun.source.tree.NewArrayTree;
import com.sun.source.tree.NewClassTree;
import com.sun.source.tree.SynchronizedTree;
import com.sun.source.tree.ThrowTree;
import com.sun.source.tree.Tree;
import com.sun.source.tree.TryTree;
import com.sun.source.tree.TypeCastTree;
import com.sun.source.tree.VariableTree;
import com.sun.source.tree.WhileLoopTree;
import com.sun.source.util.JavacTask;
import com.sun.source.util.TreePath;
import com.sun.source.util.TreePathScanner;
import com.sun.source.util.Trees;
import java.io.File;
import java.io.IOException;
import java.util.HashMap;
import java.util.HashSet;
import java.util.List;
import java.util.Map;
import java.util.Set;
import javax.lang.model.element.Element;
import javax.lang.model.element.ElementKind;
import javax.lang.model.element.Modifier;
import javax.tools.JavaCompiler;
import javax.tools.StandardJavaFileManager;
import javax.tools.ToolProvider;

/** Those rules of LANGUAGE.md that the compiler's tree of the file can tell of (rule 1 is in FaceTest, too). */
public final class RulesTest {
    private static final File FOLDER = new File("src/main/java");
    private static final Set<String> LIBRARY = Set.of("System.arraycopy", "Arrays.fill", "Integer.bitCount", "Math.min");
    private static final int MOST_LINES = 60;
    private static final int MOST_PARAMETERS = 7;
    private static final int MOST_DEEP = 8;
    private static final int MOST_CLASSES = 12;
    private static final int MOST_FIELDS = 20;

    private static final Due due = new Due();

    public static void main(String[] args) throws IOException {
        String[] files = FOLDER.list();
        due.is("the program is one file", files == null ? 0 : files.length, 1);
        JavaCompiler compiler = ToolProvider.getSystemJavaCompiler();
        try (StandardJavaFileManager manager = compiler.getStandardFileManager(null, null, null)) {
            JavacTask task = (JavacTask) compiler.getTask(null, manager, null, List.of("-proc:none"), null,
                manager.getJavaFileObjects(new File(FOLDER, "ParallelUndo.java")));
            CompilationUnitTree unit = task.parse().iterator().next();
            task.analyze();
            due.is("no package line", unit.getPackageName() == null, true);
            due.is("one class at the top", unit.getTypeDecls().size(), 1);
            for (ImportTree i : unit.getImports()) {
                due.is("rule 4: " + i, i.getQualifiedIdentifier().toString().equals("java.util.Arrays"), true);
            }
            Walk walk = new Walk(Trees.instance(task), unit);
            walk.scan(unit, null);
            walk.close();
        }
        due.close("RulesTest");
    }

    private static final class Walk extends TreePathScanner<Void, Void> {
        private final Trees trees;
        private final CompilationUnitTree unit;
        private final Map<Element, Set<Element>> calls = new HashMap<>();
        private int classes;

        Walk(Trees trees, CompilationUnitTree unit) {
            this.trees = trees;
            this.unit = unit;
        }

        void close() {
            due.is("rule 11: at most some twelve classes", classes <= MOST_CLASSES, true);
            for (Element method : calls.keySet()) {
                int deep = depth(method, new HashSet<>());
                due.is("rules 8 and 11: " + method + " of " + method.getEnclosingElement() + " goes " + deep + " deep",
                    deep <= MOST_DEEP, true);
            }
        }

        /** Of methods that call themselves, over others too: far more than is allowed. */
        private int depth(Element method, Set<Element> above) {
            if (!above.add(method)) {
                return 1000;
            }
            int most = 0;
            for (Element called : calls.getOrDefault(method, Set.of())) {
                most = Math.max(most, depth(called, above));
            }
            above.remove(method);
            return most + 1;
        }

        private Element here(Tree.Kind kind) {
            TreePath path = getCurrentPath();
            while (path != null && path.getLeaf().getKind() != kind) {
                path = path.getParentPath();
            }
            return path == null ? null : trees.getElement(path);
        }

        private void never(String rule, Tree tree) {
            due.is(rule + ": " + tree, false, true);
        }

        @Override
        public Void visitClass(ClassTree c, Void none) {
            classes++;
            boolean outer = classes == 1;
            Set<Modifier> flags = c.getModifiers().getFlags();
            due.is("rule 1: " + c.getSimpleName() + " is final", flags.contains(Modifier.FINAL), true);
            due.is("rule 1: " + c.getSimpleName() + " is static inside", outer || flags.contains(Modifier.STATIC), true);
            due.is("rule 2: " + c.getSimpleName() + " is no local class",
                outer || getCurrentPath().getParentPath().getLeaf().getKind() == Tree.Kind.CLASS, true);
            int fields = 0;
            for (Tree member : c.getMembers()) {
                if (member instanceof VariableTree v && !v.getModifiers().getFlags().contains(Modifier.STATIC)) {
                    fields++;
                }
                due.is("rule 5: no block in " + c.getSimpleName(), member instanceof BlockTree, false);
            }
            due.is("rule 11: fields of " + c.getSimpleName(), fields <= MOST_FIELDS, true);
            return super.visitClass(c, none);
        }

        @Override
        public Void visitVariable(VariableTree v, Void none) {
            Set<Modifier> flags = v.getModifiers().getFlags();
            due.is("rule 5: " + v.getName() + " is final if static",
                !flags.contains(Modifier.STATIC) || flags.contains(Modifier.FINAL), true);
            due.is("rule 3: " + v.getName() + " is no text, list or floating number",
                Set.of("int", "long", "boolean", "int[]", "long[]", "Attempt[]", "Block", "Table", "Attempt", "Bench",
                    "Conflicts", "Workers").contains(v.getType().toString()), true);
            return super.visitVariable(v, none);
        }

        @Override
        public Void visitMethod(MethodTree m, Void none) {
            Element method = trees.getElement(getCurrentPath());
            calls.putIfAbsent(method, new HashSet<>());
            due.is("rule 11: parameters of " + m.getName(), m.getParameters().size() <= MOST_PARAMETERS, true);
            long lines = line(m, false) - line(m, true) + 1;
            due.is("rule 11: lines of " + m.getName(), lines <= MOST_LINES, true);
            due.is("rule 6: no " + m.getName() + " of its own",
                Set.of("equals", "hashCode", "toString").contains(m.getName().toString()), false);
            return super.visitMethod(m, none);
        }

        private long line(Tree t, boolean first) {
            var places = trees.getSourcePositions();
            long at = first ? places.getStartPosition(unit, t) : places.getEndPosition(unit, t);
            return unit.getLineMap().getLineNumber(at);
        }

        @Override
        public Void visitMethodInvocation(MethodInvocationTree call, Void none) {
            Element called = trees.getElement(getCurrentPath());
            Element caller = here(Tree.Kind.METHOD);
            boolean own = trees.getPath(called) != null;
            if (own && caller != null) {
                calls.computeIfAbsent(caller, key -> new HashSet<>()).add(called);
            }
            String written = call.getMethodSelect().toString();
            due.is("rule 4: " + written, own || written.equals("super") || LIBRARY.contains(written), true);
            return super.visitMethodInvocation(call, none);
        }

        /** Rule 12, and the room that all calls share: rows are made with the object and used again. */
        private void made(Tree t) {
            Element method = here(Tree.Kind.METHOD);
            due.is("rule 12: made with the object: " + t,
                method == null || method.getKind() == ElementKind.CONSTRUCTOR, true);
        }

        @Override
        public Void visitNewClass(NewClassTree t, Void none) {
            made(t);
            due.is("rule 2: no anonymous class", t.getClassBody() == null, true);
            return super.visitNewClass(t, none);
        }

        @Override
        public Void visitNewArray(NewArrayTree t, Void none) {
            made(t);
            due.is("rule 3: one dimension, and a length that is a number: " + t, t.getDimensions().size(), 1);
            return super.visitNewArray(t, none);
        }

        /** Rule 7: the one divisor is how many workers there are, which the loop round it looks at. */
        @Override
        public Void visitBinary(BinaryTree t, Void none) {
            if (t.getKind() == Tree.Kind.DIVIDE || t.getKind() == Tree.Kind.REMAINDER) {
                TreePath path = getCurrentPath();
                while (path != null && path.getLeaf().getKind() != Tree.Kind.WHILE_LOOP) {
                    path = path.getParentPath();
                }
                String condition = path == null ? "" : ((WhileLoopTree) path.getLeaf()).getCondition().toString();
                due.is("rule 7: a divisor that was looked at: " + t, condition.contains(t.getRightOperand() + " > 0"),
                    true);
            }
            return super.visitBinary(t, none);
        }

        /** Rule 9: a counter that goes by one against a bound. */
        @Override
        public Void visitForLoop(ForLoopTree t, Void none) {
            String counter = t.getInitializer().isEmpty() ? "" : ((VariableTree) t.getInitializer().get(0)).getName() + "";
            String condition = t.getCondition() + "";
            String update = t.getUpdate().toString();
            boolean up = condition.matches("\\(?" + counter + " < .*") && update.equals(counter + "++;");
            boolean down = condition.matches("\\(?" + counter + " >= 0\\)?") && update.equals(counter + "--;");
            due.is("rule 9: for " + condition + ", " + update, up || down, true);
            return super.visitForLoop(t, none);
        }

        @Override
        public Void visitWhileLoop(WhileLoopTree t, Void none) {
            due.is("rule 9: while " + t.getCondition(),
                t.getCondition().toString().contains("turns < MOST_TURNS &&")
                    && t.getStatement().toString().contains("turns++;"), true);
            return super.visitWhileLoop(t, none);
        }

        @Override
        public Void visitDoWhileLoop(DoWhileLoopTree t, Void none) {
            never("rule 9, none is needed", t);
            return null;
        }

        @Override
        public Void visitTypeCast(TypeCastTree t, Void none) {
            due.is("rule 6: a cast of numbers alone: " + t, t.getType().toString().equals("int"), true);
            return super.visitTypeCast(t, none);
        }

        @Override
        public Void visitInstanceOf(InstanceOfTree t, Void none) {
            never("no object is told by its class", t);
            return null;
        }

        @Override
        public Void visitLiteral(LiteralTree t, Void none) {
            due.is("rule 3: no text, no null, no floating number: " + t,
                Set.of(Tree.Kind.INT_LITERAL, Tree.Kind.LONG_LITERAL, Tree.Kind.BOOLEAN_LITERAL).contains(t.getKind()), true);
            return super.visitLiteral(t, none);
        }

        @Override
        public Void visitThrow(ThrowTree t, Void none) {
            never("the document wants no exception", t);
            return null;
        }

        @Override
        public Void visitTry(TryTree t, Void none) {
            never("rule 6, there is nothing to catch", t);
            return null;
        }

        @Override
        public Void visitSynchronized(SynchronizedTree t, Void none) {
            never("rule 6", t);
            return null;
        }

        @Override
        public Void visitAssert(AssertTree t, Void none) {
            never("rule 6", t);
            return null;
        }

        @Override
        public Void visitLambdaExpression(LambdaExpressionTree t, Void none) {
            never("rule 2", t);
            return null;
        }

        @Override
        public Void visitMemberReference(MemberReferenceTree t, Void none) {
            never("rule 2", t);
            return null;
        }
    }
}
