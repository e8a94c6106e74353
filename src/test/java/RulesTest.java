import com.sun.source.tree.AssertTree;
import com.sun.source.tree.BinaryTree;
import com.sun.source.tree.ClassTree;
import com.sun.source.tree.CompilationUnitTree;
import com.sun.source.tree.CompoundAssignmentTree;
import com.sun.source.tree.DoWhileLoopTree;
import com.sun.source.tree.ExpressionTree;
import com.sun.source.tree.ForLoopTree;
import com.sun.source.tree.ImportTree;
import com.sun.source.tree.InstanceOfTree;
import com.sun.source.tree.LambdaExpressionTree;
import com.sun.source.tree.LiteralTree;
import com.sun.source.tree.MemberReferenceTree;
import com.sun.source.tree.MethodInvocationTree;
import com.sun.source.tree.MethodTree;
import com.sun.source.tree.NewArrayTree;
import com.sun.source.tree.NewClassTree;
import com.sun.source.tree.SynchronizedTree;
import com.sun.source.tree.ThrowTree;
import com.sun.source.tree.Tree;
import com.sun.source.tree.TryTree;
import com.sun.source.tree.TypeCastTree;
import com.sun.source.tree.VariableTree;
import com.sun.source.tree.WhileLoopTree;
import com.sun.source.util.JavacTask;
import com.sun.source.util.SourcePositions;
import com.sun.source.util.TreePath;
import com.sun.source.util.TreePathScanner;
import com.sun.source.util.TreeScanner;
import com.sun.source.util.Trees;
import java.io.IOException;
import java.nio.file.Path;
import java.util.ArrayDeque;
import java.util.Deque;
import java.util.HashMap;
import java.util.LinkedHashSet;
import java.util.List;
import java.util.Map;
import java.util.Set;
import javax.lang.model.element.Element;
import javax.lang.model.element.ElementKind;
import javax.lang.model.element.Modifier;
import javax.lang.model.element.VariableElement;
import javax.lang.model.type.ArrayType;
import javax.lang.model.type.DeclaredType;
import javax.lang.model.type.TypeKind;
import javax.lang.model.type.TypeMirror;
import javax.tools.JavaCompiler;
import javax.tools.StandardJavaFileManager;
import javax.tools.ToolProvider;

/** The rules of LANGUAGE.md that the compiler's own tree of the class shows; each failure bears the rule's number. */
public final class RulesTest {
    private static final Path SOURCE = Path.of("src/main/java/SightBlocks.java");
    private static final String OWN = "SightBlocks";

    private static final int MOST_CLASSES = 12;
    private static final int MOST_FIELDS = 20;
    private static final int MOST_PARAMETERS = 7;
    private static final int MOST_LINES = 60;
    private static final int DEEPEST = 8;

    /** What the class may call of the library, a part of rule 4. */
    private static final Set<String> LIBRARY = Set.of(
        "java.lang.String.length", "java.lang.String.charAt", "java.lang.String.isEmpty", "java.lang.String.equals",
        "java.lang.Integer.bitCount", "java.lang.Integer.compare", "java.lang.Math.max", "java.lang.Math.min",
        "java.lang.Math.abs", "java.lang.Math.floorDiv", "java.lang.Math.floorMod",
        "java.lang.System.arraycopy", "java.lang.Object.<init>");

    public static void main(String[] args) throws IOException {
        JavaCompiler compiler = ToolProvider.getSystemJavaCompiler();
        try (StandardJavaFileManager files = compiler.getStandardFileManager(null, null, null)) {
            JavacTask task = (JavacTask) compiler.getTask(null, files, null, List.of("-proc:none"), null,
                files.getJavaFileObjects(SOURCE));
            CompilationUnitTree unit = task.parse().iterator().next();
            task.analyze();
            Rules rules = new Rules(unit, Trees.instance(task));
            rules.scan(unit, null);
            rules.end();
        }
        Due.end();
    }

    /** Looks at every part of the class once, and gathers which method calls which. */
    private static final class Rules extends TreePathScanner<Void, Void> {
        private final CompilationUnitTree unit;
        private final Trees trees;
        private final Map<Element, Set<Element>> calls = new HashMap<>();
        private final Map<Element, Integer> depths = new HashMap<>();
        private int classes = 0;
        private int loops = 0;

        Rules(CompilationUnitTree unit, Trees trees) {
            this.unit = unit;
            this.trees = trees;
        }

        void end() {
            Due.holds("rule 11: " + classes + " classes", classes > 1 && classes <= MOST_CLASSES);
            Due.holds("loops and calls were looked at", loops > 0 && calls.size() > classes);
            for (Element method : calls.keySet()) {
                int depth = depth(method, new ArrayDeque<>());
                Due.holds("rule 11: " + method + " calls " + depth + " deep", depth <= DEEPEST);
            }
        }

        /** How many calls stand open at once from a method on, itself counted. */
        private int depth(Element method, Deque<Element> open) {
            Due.holds("rule 8: " + method + " is called again by " + open, !open.contains(method));
            if (open.contains(method) || !calls.containsKey(method)) {
                return 0;
            }
            if (depths.containsKey(method)) {
                return depths.get(method);
            }
            open.push(method);
            int deepest = 0;
            for (Element called : calls.get(method)) {
                deepest = Math.max(deepest, depth(called, open));
            }
            open.pop();
            depths.put(method, deepest + 1);
            return deepest + 1;
        }

        // ---- rules 1, 2, 5 and 11: classes, fields and methods

        @Override
        public Void visitImport(ImportTree tree, Void nothing) {
            holds("rule 4: no import", tree, false);
            return super.visitImport(tree, nothing);
        }

        @Override
        public Void visitClass(ClassTree tree, Void nothing) {
            classes++;
            Tree around = getCurrentPath().getParentPath().getLeaf();
            boolean outer = around.getKind() == Tree.Kind.COMPILATION_UNIT;
            Set<Modifier> flags = tree.getModifiers().getFlags();
            if (outer) {
                holds("rule 1: the class of the document", tree, tree.getSimpleName().contentEquals(OWN));
            } else {
                holds("rule 2: no class in a method", tree, around.getKind() == Tree.Kind.CLASS);
                holds("rule 2: inner classes are static", tree, flags.contains(Modifier.STATIC));
                holds("rule 1: inner classes are not public", tree,
                    !flags.contains(Modifier.PUBLIC) && !flags.contains(Modifier.PROTECTED));
            }
            long fields = tree.getMembers().stream().filter(Rules::isObjectField).count();
            holds("rule 11: " + fields + " fields", tree, fields <= MOST_FIELDS);
            holds("rule 5: no initialiser block", tree,
                tree.getMembers().stream().noneMatch(member -> member.getKind() == Tree.Kind.BLOCK));
            return super.visitClass(tree, nothing);
        }

        private static boolean isObjectField(Tree member) {
            return member instanceof VariableTree field
                && !field.getModifiers().getFlags().contains(Modifier.STATIC);
        }

        @Override
        public Void visitVariable(VariableTree tree, Void nothing) {
            Element element = trees.getElement(getCurrentPath());
            TypeMirror type = element.asType();
            holds("rule 3: the type " + type, tree, isPlain(type) || type instanceof ArrayType array
                && isPlain(array.getComponentType()));
            if (element.getModifiers().contains(Modifier.STATIC)) {
                holds("rule 5: a static field is a constant", tree, element.getModifiers().contains(Modifier.FINAL)
                    && ((VariableElement) element).getConstantValue() != null);
            }
            return super.visitVariable(tree, nothing);
        }

        private static boolean isPlain(TypeMirror type) {
            if (type instanceof DeclaredType declared) {
                String name = declared.asElement().toString();
                return name.equals("java.lang.String") || name.startsWith(OWN);
            }
            return type.getKind().isPrimitive() && type.getKind() != TypeKind.FLOAT
                && type.getKind() != TypeKind.DOUBLE;
        }

        @Override
        public Void visitMethod(MethodTree tree, Void nothing) {
            calls.computeIfAbsent(trees.getElement(getCurrentPath()), m -> new LinkedHashSet<>());
            holds("rule 11: parameters", tree, tree.getParameters().size() <= MOST_PARAMETERS);
            SourcePositions places = trees.getSourcePositions();
            long end = places.getEndPosition(unit, tree);
            long lines = end < 0 ? 0 : lineOf(end) - lineOf(places.getStartPosition(unit, tree)) + 1;
            holds("rule 11: " + lines + " lines", tree, lines <= MOST_LINES);
            holds("rule 6: no throws", tree, tree.getThrows().isEmpty());
            return super.visitMethod(tree, nothing);
        }

        // ---- rules 2 and 6: what the language keeps out

        @Override
        public Void visitLambdaExpression(LambdaExpressionTree tree, Void nothing) {
            holds("rule 2: no lambda", tree, false);
            return super.visitLambdaExpression(tree, nothing);
        }

        @Override
        public Void visitMemberReference(MemberReferenceTree tree, Void nothing) {
            holds("rule 2: no method reference", tree, false);
            return super.visitMemberReference(tree, nothing);
        }

        @Override
        public Void visitThrow(ThrowTree tree, Void nothing) {
            holds("rule 6: no throw", tree, false);
            return super.visitThrow(tree, nothing);
        }

        @Override
        public Void visitTry(TryTree tree, Void nothing) {
            holds("rule 6: no try", tree, false);
            return super.visitTry(tree, nothing);
        }

        @Override
        public Void visitSynchronized(SynchronizedTree tree, Void nothing) {
            holds("rule 6: no synchronized", tree, false);
            return super.visitSynchronized(tree, nothing);
        }

        @Override
        public Void visitAssert(AssertTree tree, Void nothing) {
            holds("rule 6: no assert", tree, false);
            return super.visitAssert(tree, nothing);
        }

        // ---- rule 7: what the machine could throw at, so far as the class does without it

        @Override
        public Void visitTypeCast(TypeCastTree tree, Void nothing) {
            TypeMirror to = trees.getTypeMirror(new TreePath(getCurrentPath(), tree.getType()));
            holds("rule 7: only numbers are cast", tree, to.getKind().isPrimitive());
            return super.visitTypeCast(tree, nothing);
        }

        @Override
        public Void visitInstanceOf(InstanceOfTree tree, Void nothing) {
            holds("rule 6: no instanceof is needed", tree, false);
            return super.visitInstanceOf(tree, nothing);
        }

        @Override
        public Void visitBinary(BinaryTree tree, Void nothing) {
            Tree.Kind kind = tree.getKind();
            boolean text = isText(tree.getLeftOperand()) || isText(tree.getRightOperand());
            holds("rules 6 and 10: no operator on texts", tree, !text);
            if (kind == Tree.Kind.DIVIDE || kind == Tree.Kind.REMAINDER) {
                holds("rule 7: a divisor is a constant above 0", tree, isPositive(tree.getRightOperand()));
            }
            return super.visitBinary(tree, nothing);
        }

        @Override
        public Void visitCompoundAssignment(CompoundAssignmentTree tree, Void nothing) {
            Tree.Kind kind = tree.getKind();
            holds("rule 7: no dividing assignment", tree,
                kind != Tree.Kind.DIVIDE_ASSIGNMENT && kind != Tree.Kind.REMAINDER_ASSIGNMENT);
            holds("rule 10: no text is joined", tree, !isText(tree.getVariable()));
            return super.visitCompoundAssignment(tree, nothing);
        }

        private boolean isText(ExpressionTree part) {
            TypeMirror type = trees.getTypeMirror(new TreePath(getCurrentPath(), part));
            return type != null && type.toString().equals("java.lang.String");
        }

        private boolean isPositive(ExpressionTree divisor) {
            Object value = divisor instanceof LiteralTree literal ? literal.getValue() : null;
            Element named = trees.getElement(new TreePath(getCurrentPath(), divisor));
            if (named instanceof VariableElement constant) {
                value = constant.getConstantValue();
            }
            return value instanceof Integer number && number > 0;
        }

        // ---- rules 4, 8 and 12: calls, and what is made

        @Override
        public Void visitMethodInvocation(MethodInvocationTree tree, Void nothing) {
            called(trees.getElement(getCurrentPath()), tree);
            return super.visitMethodInvocation(tree, nothing);
        }

        @Override
        public Void visitNewClass(NewClassTree tree, Void nothing) {
            holds("rule 2: no anonymous class", tree, tree.getClassBody() == null);
            holds("rule 12: objects are made by constructors", tree, method().getKind() == ElementKind.CONSTRUCTOR);
            called(trees.getElement(getCurrentPath()), tree);
            return super.visitNewClass(tree, nothing);
        }

        @Override
        public Void visitNewArray(NewArrayTree tree, Void nothing) {
            holds("rule 12: arrays are made by constructors", tree, method().getKind() == ElementKind.CONSTRUCTOR);
            for (ExpressionTree length : tree.getDimensions()) {
                holds("rule 7: a length is a constant above 0", tree, isPositive(length));
            }
            return super.visitNewArray(tree, nothing);
        }

        private void called(Element called, Tree tree) {
            Element owner = called.getEnclosingElement();
            if (owner.toString().startsWith(OWN)) {
                calls.computeIfAbsent(method(), m -> new LinkedHashSet<>()).add(called);
                return;
            }
            String name = owner + "." + called.getSimpleName();
            holds("rule 4: " + name + " is of the library that is left", tree, LIBRARY.contains(name));
        }

        private Element method() {
            TreePath path = getCurrentPath();
            while (path.getLeaf().getKind() != Tree.Kind.METHOD) {
                path = path.getParentPath();
            }
            return trees.getElement(path);
        }

        // ---- rule 9: each loop counts against a bound

        @Override
        public Void visitForLoop(ForLoopTree tree, Void nothing) {
            bounded(tree, tree.getCondition());
            holds("rule 9: a for counts", tree, tree.getUpdate().size() == 1);
            return super.visitForLoop(tree, nothing);
        }

        @Override
        public Void visitWhileLoop(WhileLoopTree tree, Void nothing) {
            bounded(tree, tree.getCondition());
            return super.visitWhileLoop(tree, nothing);
        }

        @Override
        public Void visitDoWhileLoop(DoWhileLoopTree tree, Void nothing) {
            bounded(tree, tree.getCondition());
            return super.visitDoWhileLoop(tree, nothing);
        }

        private void bounded(Tree loop, ExpressionTree condition) {
            loops++;
            holds("rule 9: a loop ends at a bound", loop, condition != null && isBound(condition));
        }

        /** A comparison that has to hold for the loop to go on, not one of several of which one is enough. */
        private static boolean isBound(ExpressionTree condition) {
            boolean[] found = new boolean[1];
            new TreeScanner<Void, Void>() {
                @Override
                public Void visitBinary(BinaryTree part, Void nothing) {
                    Tree.Kind kind = part.getKind();
                    found[0] |= kind == Tree.Kind.LESS_THAN || kind == Tree.Kind.LESS_THAN_EQUAL
                        || kind == Tree.Kind.GREATER_THAN;
                    return kind == Tree.Kind.CONDITIONAL_OR ? null : super.visitBinary(part, nothing);
                }
            }.scan(condition, null);
            return found[0];
        }

        private void holds(String rule, Tree tree, boolean so) {
            Due.holds("line " + lineOf(trees.getSourcePositions().getStartPosition(unit, tree)) + ", " + rule, so);
        }

        private long lineOf(long place) {
            return unit.getLineMap().getLineNumber(place);
        }
    }
}
