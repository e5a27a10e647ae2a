import com.sun.source.tree.ArrayAccessTree;
import com.sun.source.tree.AssignmentTree;
import com.sun.source.tree.BinaryTree;
import com.sun.source.tree.ClassTree;
import com.sun.source.tree.CompilationUnitTree;
import com.sun.source.tree.CompoundAssignmentTree;
import com.sun.source.tree.DoWhileLoopTree;
import com.sun.source.tree.ExpressionTree;
import com.sun.source.tree.ForLoopTree;
import com.sun.source.tree.LiteralTree;
import com.sun.source.tree.MethodInvocationTree;
import com.sun.source.tree.MethodTree;
import com.sun.source.tree.NewArrayTree;
import com.sun.source.tree.NewClassTree;
import com.sun.source.tree.ParenthesizedTree;
import com.sun.source.tree.StatementTree;
import com.sun.source.tree.Tree;
import com.sun.source.tree.TypeCastTree;
import com.sun.source.tree.UnaryTree;
import com.sun.source.tree.VariableTree;
import com.sun.source.tree.WhileLoopTree;
import com.sun.source.util.JavacTask;
import com.sun.source.util.TreePath;
import com.sun.source.util.TreePathScanner;
import com.sun.source.util.Trees;
import java.io.File;
import java.io.IOException;
import java.util.ArrayList;
import java.util.HashMap;
import java.util.List;
import java.util.Map;
import java.util.Set;
import java.util.TreeSet;
import javax.lang.model.element.Element;
import javax.lang.model.element.ElementKind;
import javax.lang.model.element.Modifier;
import javax.lang.model.type.ArrayType;
import javax.lang.model.type.TypeKind;
import javax.lang.model.type.TypeMirror;
import javax.tools.JavaCompiler;
import javax.tools.StandardJavaFileManager;
import javax.tools.ToolProvider;

/** What ../shared/LANGUAGE.md asks, told from the tree that the compiler makes of the class. Runs at the project's root. */
public final class LanguageTreeTest {
    private static final Set<String> LIBRARY = Set.of(
        "String.length()", "String.charAt(int)",
        "Integer.bitCount(int)", "Math.max(int,int)", "Math.min(int,int)", "Math.abs(int)", "Math.floorMod(int,int)",
        "System.arraycopy(java.lang.Object,int,java.lang.Object,int,int)");
    private static final Set<Tree.Kind> NEVER = Set.of(
        Tree.Kind.THROW, Tree.Kind.TRY, Tree.Kind.CATCH, Tree.Kind.SYNCHRONIZED, Tree.Kind.ASSERT, Tree.Kind.LAMBDA_EXPRESSION,
        Tree.Kind.MEMBER_REFERENCE, Tree.Kind.BINDING_PATTERN, Tree.Kind.SWITCH_EXPRESSION, Tree.Kind.PACKAGE, Tree.Kind.IMPORT,
        Tree.Kind.DOUBLE_LITERAL, Tree.Kind.FLOAT_LITERAL, Tree.Kind.ANNOTATION, Tree.Kind.ENHANCED_FOR_LOOP, Tree.Kind.LABELED_STATEMENT);
    private static final int DEEPEST = 8;

    private final Trees trees;
    private final CompilationUnitTree unit;
    private final Map<String, Set<String>> calls = new HashMap<>();
    private final Map<String, Integer> depths = new HashMap<>();

    private LanguageTreeTest(Trees trees, CompilationUnitTree unit) {
        this.trees = trees;
        this.unit = unit;
    }

    public static void main(String[] args) throws IOException {
        JavaCompiler compiler = ToolProvider.getSystemJavaCompiler();
        try (StandardJavaFileManager files = compiler.getStandardFileManager(null, null, null)) {
            JavacTask task = (JavacTask) compiler.getTask(null, files, null, List.of("-proc:none"), null,
                files.getJavaFileObjects(new File("src/main/java/MoleBoard.java")));
            CompilationUnitTree unit = task.parse().iterator().next();
            task.analyze();
            LanguageTreeTest test = new LanguageTreeTest(Trees.instance(task), unit);
            test.readAll();
            test.callsGoAtMostEightDeep();
        }
        Check.end("LanguageTreeTest");
    }

    private void readAll() {
        Reader reader = new Reader();
        reader.scan(unit, null);
        due("methods were seen", calls.size() > 100);
        due("loops were seen", reader.loops > 50);
        due("divisions were seen", reader.divisions > 5);
    }

    /** Calls that are no recursion go at most eight deep, those of the library counted; there is no recursion. */
    private void callsGoAtMostEightDeep() {
        int deepest = 0;
        for (String method : new ArrayList<>(calls.keySet())) {
            int depth = depthOf(method, new ArrayList<>());
            deepest = Math.max(deepest, depth);
            due(method + " goes " + depth + " deep", depth <= DEEPEST);
        }
        due("some go deep", deepest > 3);
    }

    private int depthOf(String method, List<String> open) {
        if (open.contains(method)) {
            due(open + " is no recursion", false);
            return 0;
        }
        Integer known = depths.get(method);
        if (known != null) {
            return known;
        }
        open.add(method);
        int deepest = 0;
        for (String called : calls.getOrDefault(method, Set.of())) {
            deepest = Math.max(deepest, depthOf(called, open));
        }
        open.remove(method);
        depths.put(method, deepest + 1);
        return deepest + 1;
    }

    private static void due(String what, boolean is) {
        Check.due(what, is ? 1 : 0, 1);
    }

    private final class Reader extends TreePathScanner<Void, Void> {
        private int loops;
        private int divisions;

        private String at(Tree tree) {
            return "line " + unit.getLineMap().getLineNumber(trees.getSourcePositions().getStartPosition(unit, tree)) + ": " + tree;
        }

        private TypeMirror typeOf(Tree tree) {
            return trees.getTypeMirror(new TreePath(getCurrentPath(), tree));
        }

        @Override
        public Void scan(Tree tree, Void none) {
            if (tree != null) {
                due(at(tree) + " is of a kind that may be", !NEVER.contains(tree.getKind()));
            }
            return super.scan(tree, none);
        }

        // ---- rules 2 and 3: classes and types

        @Override
        public Void visitClass(ClassTree tree, Void none) {
            boolean outer = tree.getSimpleName().contentEquals("MoleBoard");
            Set<Modifier> modifiers = tree.getModifiers().getFlags();
            due(tree.getSimpleName() + " is static or the class of the document", outer || modifiers.contains(Modifier.STATIC));
            due(tree.getSimpleName() + " stands in the class", getCurrentPath().getParentPath().getLeaf().getKind()
                == (outer ? Tree.Kind.COMPILATION_UNIT : Tree.Kind.CLASS));
            return super.visitClass(tree, none);
        }

        @Override
        public Void visitVariable(VariableTree tree, Void none) {
            due(at(tree) + " is of a type that may be", isGood(trees.getTypeMirror(getCurrentPath())));
            Element variable = trees.getElement(getCurrentPath());
            if (variable.getKind() == ElementKind.FIELD && variable.getModifiers().contains(Modifier.STATIC)) {
                TypeMirror type = trees.getTypeMirror(getCurrentPath());
                due(at(tree) + " is a constant", variable.getModifiers().contains(Modifier.FINAL) && (type.getKind().isPrimitive() || isText(type)));
            }
            return super.visitVariable(tree, none);
        }

        private boolean isGood(TypeMirror type) {
            if (type.getKind() == TypeKind.ARRAY) {
                TypeMirror part = ((ArrayType) type).getComponentType();
                return part.getKind() != TypeKind.ARRAY && isGood(part);
            }
            return Set.of(TypeKind.INT, TypeKind.LONG, TypeKind.BYTE, TypeKind.BOOLEAN, TypeKind.CHAR).contains(type.getKind())
                || isText(type) || isOwn(type.toString());
        }

        private boolean isText(TypeMirror type) {
            return type.toString().equals("java.lang.String");
        }

        private boolean isOwn(String name) {
            return name.equals("MoleBoard") || name.startsWith("MoleBoard.");
        }

        // ---- rules 4 and 12: the library, and what is made

        @Override
        public Void visitMethod(MethodTree tree, Void none) {
            calls.computeIfAbsent(nameOf(trees.getElement(getCurrentPath())), name -> new TreeSet<>());
            due(at(tree) + " takes at most seven", tree.getParameters().size() <= 7);
            return super.visitMethod(tree, none);
        }

        @Override
        public Void visitMethodInvocation(MethodInvocationTree tree, Void none) {
            Element called = trees.getElement(getCurrentPath());
            String owner = called.getEnclosingElement().toString();
            boolean isSuper = called.getKind() == ElementKind.CONSTRUCTOR;
            if (!isSuper) {
                boolean own = isOwn(owner);
                due(at(tree) + " is a call that may be", own || LIBRARY.contains(owner.replace("java.lang.", "") + "." + called));
                calls.computeIfAbsent(nameOf(caller()), name -> new TreeSet<>()).add(nameOf(called));
            }
            return super.visitMethodInvocation(tree, none);
        }

        private String nameOf(Element method) {
            return method.getEnclosingElement() + "." + method;
        }

        /** The method in which the tree stands, or the class of the field. */
        private Element caller() {
            TreePath path = getCurrentPath();
            while (path.getLeaf().getKind() != Tree.Kind.METHOD && path.getLeaf().getKind() != Tree.Kind.CLASS) {
                path = path.getParentPath();
            }
            return trees.getElement(path);
        }

        @Override
        public Void visitNewClass(NewClassTree tree, Void none) {
            due(at(tree) + " is of the class's own", isOwn(trees.getTypeMirror(getCurrentPath()).toString()) && tree.getClassBody() == null);
            due(at(tree) + " is made ahead of all calls", isMadeAhead());
            return super.visitNewClass(tree, none);
        }

        @Override
        public Void visitNewArray(NewArrayTree tree, Void none) {
            due(at(tree) + " is made ahead of all calls", isMadeAhead());
            return super.visitNewArray(tree, none);
        }

        private boolean isMadeAhead() {
            return caller().getKind() == ElementKind.CONSTRUCTOR || caller().getKind() == ElementKind.CLASS;
        }

        // ---- rules 6 and 10: no texts joined or compared by their place

        @Override
        public Void visitBinary(BinaryTree tree, Void none) {
            boolean ofTexts = isText(typeOf(tree.getLeftOperand())) || isText(typeOf(tree.getRightOperand()));
            due(at(tree) + " joins and compares no texts", !ofTexts);
            if (tree.getKind() == Tree.Kind.DIVIDE || tree.getKind() == Tree.Kind.REMAINDER) {
                divisions++;
                due(at(tree) + " divides by what was looked at", isLookedAt(tree.getRightOperand()));
            }
            return super.visitBinary(tree, none);
        }

        @Override
        public Void visitCompoundAssignment(CompoundAssignmentTree tree, Void none) {
            due(at(tree) + " joins no texts", !isText(typeOf(tree.getVariable())));
            due(at(tree) + " divides nothing", tree.getKind() != Tree.Kind.DIVIDE_ASSIGNMENT && tree.getKind() != Tree.Kind.REMAINDER_ASSIGNMENT);
            return super.visitCompoundAssignment(tree, none);
        }

        // ---- rule 7: a divisor is a number written out that is not 0, or was held against 0 in the same method

        private boolean isLookedAt(ExpressionTree divisor) {
            if (divisor instanceof LiteralTree) {
                return ((Number) ((LiteralTree) divisor).getValue()).longValue() != 0;
            }
            return methodText().matches("(?s).*\\b" + java.util.regex.Pattern.quote(divisor.toString()) + " (>|==|<=) 0\\b.*");
        }

        private String methodText() {
            TreePath path = getCurrentPath();
            while (path.getLeaf().getKind() != Tree.Kind.METHOD) {
                path = path.getParentPath();
            }
            return path.getLeaf().toString();
        }

        @Override
        public Void visitArrayAccess(ArrayAccessTree tree, Void none) {
            due(at(tree) + " has a plain index", !(tree.getIndex() instanceof AssignmentTree) && !(tree.getIndex() instanceof UnaryTree));
            return super.visitArrayAccess(tree, none);
        }

        @Override
        public Void visitTypeCast(TypeCastTree tree, Void none) {
            due(at(tree) + " casts a number", typeOf(tree.getExpression()).getKind().isPrimitive());
            return super.visitTypeCast(tree, none);
        }

        // ---- rule 9: a loop's own lines tell its end

        @Override
        public Void visitForLoop(ForLoopTree tree, Void none) {
            loops++;
            String counter = tree.getInitializer().size() == 1 && tree.getInitializer().get(0) instanceof VariableTree
                ? ((VariableTree) tree.getInitializer().get(0)).getName().toString() : "";
            int way = tree.getUpdate().size() == 1 ? wayOf(tree.getUpdate().get(0).getExpression(), counter) : 0;
            due(at(tree.getUpdate().get(0)) + " is a step by a number written out", way != 0);
            due("the loop of " + at(tree.getUpdate().get(0)) + " has a bound", way != 0 && isBound(tree.getCondition(), counter, way));
            due("the loop of " + at(tree.getUpdate().get(0)) + " sets its counter nowhere else", !setsIn(tree.getStatement(), counter));
            return super.visitForLoop(tree, none);
        }

        @Override
        public Void visitWhileLoop(WhileLoopTree tree, Void none) {
            loops++;
            String text = tree.getCondition().toString();
            String counter = text.replaceAll("^\\(*(\\w+) < .*$", "$1");
            due(at(tree) + " has a counter that is below a bound", !counter.equals(text));
            due(at(tree) + " counts up", tree.getStatement().toString().contains(counter + "++;"));
            return super.visitWhileLoop(tree, none);
        }

        @Override
        public Void visitDoWhileLoop(DoWhileLoopTree tree, Void none) {
            due(at(tree) + " is a kind of loop that is read here", false);
            return super.visitDoWhileLoop(tree, none);
        }

        /** 1 where the counter grows by a number written out, -1 where it shrinks, else 0. */
        private int wayOf(ExpressionTree step, String counter) {
            if (step instanceof UnaryTree && ((UnaryTree) step).getExpression().toString().equals(counter)) {
                return step.getKind() == Tree.Kind.POSTFIX_INCREMENT ? 1 : step.getKind() == Tree.Kind.POSTFIX_DECREMENT ? -1 : 0;
            }
            if (step instanceof CompoundAssignmentTree && ((CompoundAssignmentTree) step).getVariable().toString().equals(counter)
                    && ((CompoundAssignmentTree) step).getExpression() instanceof LiteralTree) {
                return step.getKind() == Tree.Kind.PLUS_ASSIGNMENT ? 1 : step.getKind() == Tree.Kind.MINUS_ASSIGNMENT ? -1 : 0;
            }
            return 0;
        }

        /** Whether one of the conditions that must all hold keeps the counter below (above) something. */
        private boolean isBound(ExpressionTree condition, String counter, int way) {
            if (condition instanceof ParenthesizedTree) {
                return isBound(((ParenthesizedTree) condition).getExpression(), counter, way);
            }
            if (!(condition instanceof BinaryTree)) {
                return false;
            }
            BinaryTree both = (BinaryTree) condition;
            if (both.getKind() == Tree.Kind.CONDITIONAL_AND) {
                return isBound(both.getLeftOperand(), counter, way) || isBound(both.getRightOperand(), counter, way);
            }
            boolean up = both.getKind() == Tree.Kind.LESS_THAN || both.getKind() == Tree.Kind.LESS_THAN_EQUAL;
            boolean down = both.getKind() == Tree.Kind.GREATER_THAN_EQUAL || both.getKind() == Tree.Kind.GREATER_THAN;
            return (way > 0 ? up : down) && both.getLeftOperand().toString().matches(counter + "( \\+ \\d+)?");
        }

        private boolean setsIn(StatementTree body, String counter) {
            return body.toString().matches("(?s).*(?<![\\w.])" + counter + " ?([-+*/%&|^]|<<|>>)?=[^=].*")
                || body.toString().matches("(?s).*(?<![\\w.])" + counter + "(\\+\\+|--).*");
        }
    }
}
