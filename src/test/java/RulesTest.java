import com.sun.source.tree.AssertTree;
import com.sun.source.tree.AssignmentTree;
import com.sun.source.tree.BinaryTree;
import com.sun.source.tree.CatchTree;
import com.sun.source.tree.ClassTree;
import com.sun.source.tree.CompilationUnitTree;
import com.sun.source.tree.CompoundAssignmentTree;
import com.sun.source.tree.DoWhileLoopTree;
import com.sun.source.tree.ForLoopTree;
import com.sun.source.tree.ImportTree;
import com.sun.source.tree.InstanceOfTree;
import com.sun.source.tree.LambdaExpressionTree;
import com.sun.source.tree.LiteralTree;
import com.sun.source.tree.MemberReferenceTree;
import com.sun.source.tree.MethodInvocationTree;
import com.sun.source.tree.MethodTree;
import com.sun.source.tree.NewArrayTree;
import com.sun.source.tree.NewClassTree;
import com.sun.source.tree.SynchronizedTree;
import com.sun.source.tree.ThrowTree;
import com.sun.source.tree.Tree;
import com.sun.source.tree.TypeCastTree;
import com.sun.source.tree.UnaryTree;
import com.sun.source.tree.VariableTree;
import com.sun.source.tree.WhileLoopTree;
import com.sun.source.util.JavacTask;
import com.sun.source.util.TreePath;
import com.sun.source.util.TreePathScanner;
import com.sun.source.util.Trees;
import java.io.IOException;
import java.nio.file.Files;
import java.nio.file.Path;
import java.util.HashMap;
import java.util.HashSet;
import java.util.List;
import java.util.Map;
import java.util.Set;
import java.util.TreeSet;
import javax.lang.model.element.Element;
import javax.lang.model.element.ElementKind;
import javax.lang.model.element.Modifier;
import javax.lang.model.element.TypeElement;
import javax.lang.model.type.ArrayType;
import javax.lang.model.type.DeclaredType;
import javax.lang.model.type.TypeMirror;
import javax.tools.JavaCompiler;
import javax.tools.StandardJavaFileManager;
import javax.tools.ToolProvider;

/**
 * The rules of ../shared/LANGUAGE.md that can be seen in the source, looked up in the compiler's own tree of it. What
 * the program doesn't use at all (lists, catches, casts of references, texts joined ..) is simply refused here, even
 * where a rule would allow it; who needs it adds it with its rule. {@code java RulesTest FILE} looks at another file.
 */
public final class RulesTest {
    private static final Set<String> LIBRARY = Set.of("Arrays.fill", "System.arraycopy", "Math.max", "Math.min",
            "Math.abs", "Long.bitCount", "Integer.bitCount", "Long.numberOfTrailingZeros", "String.length",
            "String.charAt", "StringBuilder.append", "StringBuilder.charAt", "StringBuilder.setLength",
            "StringBuilder.length");
    private static final Set<String> APPENDED = Set.of("char", "int", "java.lang.String");
    private static final Set<String> EXCEPTIONS = Set.of("IllegalStateException", "IllegalArgumentException",
            "IndexOutOfBoundsException", "NoSuchElementException");
    private static final Set<String> ON_DOUBLES = Set.of("PLUS", "MINUS", "MULTIPLY", "DIVIDE", "LESS_THAN",
            "GREATER_THAN", "LESS_THAN_EQUAL", "GREATER_THAN_EQUAL", "EQUAL_TO", "NOT_EQUAL_TO",
            "PLUS_ASSIGNMENT", "MINUS_ASSIGNMENT", "MULTIPLY_ASSIGNMENT", "DIVIDE_ASSIGNMENT", "UNARY_MINUS");
    private static final int MOST_CLASSES = 12;
    private static final int MOST_FIELDS = 20;
    private static final int MOST_LINES = 60;
    private static final int MOST_PARAMETERS = 7;
    private static final int DEEPEST = 8;

    private static int classes = 0;
    private static final Set<String> face = new TreeSet<>();
    private static final Set<String> own = new TreeSet<>();
    private static final Map<Element, Set<Element>> calls = new HashMap<>();

    public static void main(String[] args) throws IOException {
        Path file = Path.of(args.length > 0 ? args[0] : "src/main/java/IsingLab.java");
        String source = Files.readString(file);
        Check.same("signs", source.chars().allMatch(c -> c == 10 || c >= 32 && c < 127), true);
        JavaCompiler compiler = ToolProvider.getSystemJavaCompiler();
        try (StandardJavaFileManager files = compiler.getStandardFileManager(null, null, null)) {
            JavacTask task = (JavacTask) compiler.getTask(null, files, null, List.of("-proc:none"), null,
                    files.getJavaFileObjects(file));
            CompilationUnitTree unit = task.parse().iterator().next();
            task.analyze();
            Trees trees = Trees.instance(task);
            Check.same("no package line", unit.getPackageName() == null, true);
            Check.same("top classes", unit.getTypeDecls().size(), 1);
            new Scan(unit, trees).scan(unit, null);
        }
        Check.same("classes: at most " + MOST_CLASSES, classes <= MOST_CLASSES, true);
        Check.same("methods of the face", face.size(), 64);
        own.retainAll(face);
        Check.same("own methods with a name of the face", own, Set.of());
        for (Element method : calls.keySet()) {
            int depth = depthOf(method, 0);
            Check.same(method + ": calls that go deeper than " + DEEPEST + " or in a circle", depth > DEEPEST, false);
        }
        Check.end();
    }

    private static int depthOf(Element method, int above) {
        int deepest = 0;
        if (above <= DEEPEST) {
            for (Element called : calls.getOrDefault(method, Set.of())) {
                deepest = Math.max(deepest, depthOf(called, above + 1));
            }
        }
        return deepest + 1;
    }

    private static final class Scan extends TreePathScanner<Void, Void> {
        private final CompilationUnitTree unit;
        private final Trees trees;
        private Element method = null;

        Scan(CompilationUnitTree unit, Trees trees) {
            this.unit = unit;
            this.trees = trees;
        }

        private void due(boolean good, String rule, Tree tree) {
            String text = tree.toString().strip().split("\n")[0];
            Check.same("line " + lineOf(tree) + ", " + rule + ": " + text, good, true);
        }

        private void refuse(String rule, Tree tree) {
            due(false, rule, tree);
        }

        private long lineOf(Tree tree) {
            long at = trees.getSourcePositions().getStartPosition(unit, tree);
            return at < 0 ? -1 : unit.getLineMap().getLineNumber(at);
        }

        private long lastLineOf(Tree tree) {
            return unit.getLineMap().getLineNumber(trees.getSourcePositions().getEndPosition(unit, tree));
        }

        private Element element(Tree tree) {
            return trees.getElement(new TreePath(getCurrentPath(), tree));
        }

        private String type(Tree tree) {
            TypeMirror type = trees.getTypeMirror(new TreePath(getCurrentPath(), tree));
            return type == null ? "?" : type.toString();
        }

        private boolean floating(Tree tree) {
            return Set.of("double", "float").contains(type(tree));
        }

        private static boolean isOwn(Element e) {
            for (Element at = e; at != null; at = at.getEnclosingElement()) {
                if (at.getSimpleName().contentEquals("IsingLab")) {
                    return true;
                }
            }
            return false;
        }

        /** What StringBuilder inherits counts as its own. */
        private static String nameOf(Element member) {
            String type = member.getEnclosingElement().getSimpleName().toString();
            return type.replace("AbstractStringBuilder", "StringBuilder") + "." + member.getSimpleName();
        }

        private void note(Element called) {
            if (method != null) {
                calls.get(method).add(called);
            }
        }

        @Override
        public Void visitImport(ImportTree tree, Void v) {
            String name = tree.getQualifiedIdentifier().toString();
            due(Set.of("java.util.Arrays", "java.util.NoSuchElementException").contains(name), "rule 4", tree);
            return null;
        }

        @Override
        public Void visitClass(ClassTree tree, Void v) {
            classes++;
            TypeElement type = (TypeElement) trees.getElement(getCurrentPath());
            boolean outer = type.getSimpleName().contentEquals("IsingLab");
            Set<Modifier> flags = type.getModifiers();
            due(outer ? flags.equals(Set.of(Modifier.PUBLIC, Modifier.FINAL))
                    : flags.equals(Set.of(Modifier.PRIVATE, Modifier.STATIC, Modifier.FINAL)), "rules 1 and 2", tree);
            due(tree.getKind() == Tree.Kind.CLASS && tree.getTypeParameters().isEmpty(), "rule 2", tree);
            int fields = 0;
            for (Tree member : tree.getMembers()) {
                due(member.getKind() != Tree.Kind.BLOCK, "rule 5", member);
                if (member instanceof VariableTree field) {
                    fields += checkField(field, outer);
                }
            }
            due(fields <= MOST_FIELDS, "rule 11", tree);
            return super.visitClass(tree, v);
        }

        private int checkField(VariableTree field, boolean outer) {
            Set<Modifier> flags = field.getModifiers().getFlags();
            if (!flags.contains(Modifier.STATIC)) {
                due(!outer || flags.contains(Modifier.PRIVATE), "rule 1", field);
                return 1;
            }
            due(flags.contains(Modifier.FINAL), "rule 5", field);
            due(Set.of("int", "long", "boolean", "char").contains(field.getType().toString()), "rule 5", field);
            return 0;
        }

        @Override
        public Void visitMethod(MethodTree tree, Void v) {
            Element outer = method;
            method = trees.getElement(getCurrentPath());
            calls.computeIfAbsent(method, e -> new HashSet<>());
            String name = tree.getName().toString();
            boolean inside = !method.getEnclosingElement().getSimpleName().contentEquals("IsingLab");
            boolean open = method.getModifiers().contains(Modifier.PUBLIC);
            if (method.getKind() == ElementKind.METHOD) {
                (open ? face : own).add(name);
                due(!inside || !open, "rule 1", tree);
                due(inside || open || method.getModifiers().contains(Modifier.PRIVATE), "rule 1", tree);
                due(lastLineOf(tree) - lineOf(tree) + 1 <= MOST_LINES, "rule 11", tree);
            }
            due(!Set.of("equals", "hashCode", "toString", "finalize").contains(name), "rule 6", tree);
            due(tree.getParameters().size() <= MOST_PARAMETERS, "rule 11", tree);
            super.visitMethod(tree, v);
            method = outer;
            return null;
        }

        @Override
        public Void visitVariable(VariableTree tree, Void v) {
            TypeMirror type = trees.getTypeMirror(getCurrentPath());
            due(isAllowed(type), "rule 3", tree);
            return super.visitVariable(tree, v);
        }

        private boolean isAllowed(TypeMirror type) {
            if (type instanceof ArrayType array) {
                return array.getComponentType().getKind().isPrimitive();
            }
            if (type instanceof DeclaredType declared) {
                String name = declared.toString();
                return name.equals("java.lang.String") || name.equals("java.lang.StringBuilder")
                        || isOwn(declared.asElement());
            }
            return type.getKind().isPrimitive();
        }

        @Override
        public Void visitMethodInvocation(MethodInvocationTree tree, Void v) {
            Element called = element(tree.getMethodSelect());
            if (called == null) {
                refuse("unknown call", tree);
            } else if (isOwn(called)) {
                note(called);
            } else if (!called.getSimpleName().contentEquals("<init>")) {
                due(LIBRARY.contains(nameOf(called)), "rule 4", tree);
                checkArguments(nameOf(called), tree);
            }
            return super.visitMethodInvocation(tree, v);
        }

        private void checkArguments(String name, MethodInvocationTree tree) {
            for (Tree argument : tree.getArguments()) {
                if (name.equals("StringBuilder.append")) {
                    due(APPENDED.contains(type(argument)), "rule 4", tree);
                }
                if (name.startsWith("Math.")) {
                    due(!floating(argument), "rule 3", tree);
                }
            }
        }

        @Override
        public Void visitNewClass(NewClassTree tree, Void v) {
            Element made = element(tree.getIdentifier());
            due(tree.getClassBody() == null, "rule 2", tree);
            boolean thrown = getCurrentPath().getParentPath().getLeaf().getKind() == Tree.Kind.THROW;
            if (isOwn(made)) {
                note(trees.getElement(getCurrentPath()));
            } else if (!thrown) {
                due(made.getSimpleName().contentEquals("StringBuilder") && tree.getArguments().isEmpty(),
                        "rule 4", tree);
            }
            return super.visitNewClass(tree, v);
        }

        @Override
        public Void visitThrow(ThrowTree tree, Void v) {
            boolean good = tree.getExpression() instanceof NewClassTree made
                    && EXCEPTIONS.contains(made.getIdentifier().toString()) && made.getArguments().size() <= 1
                    && made.getArguments().stream().allMatch(a -> a.getKind() == Tree.Kind.STRING_LITERAL);
            due(good && method.getKind() != ElementKind.CONSTRUCTOR, "rule 6", tree);
            return super.visitThrow(tree, v);
        }

        @Override
        public Void visitBinary(BinaryTree tree, Void v) {
            due(!type(tree).equals("java.lang.String"), "rule 10", tree);
            if (floating(tree.getLeftOperand()) || floating(tree.getRightOperand())) {
                due(ON_DOUBLES.contains(tree.getKind().name()), "rule 3", tree);
            }
            if (tree.getKind() == Tree.Kind.EQUAL_TO || tree.getKind() == Tree.Kind.NOT_EQUAL_TO) {
                due(!type(tree.getLeftOperand()).startsWith("java."), "rule 6", tree);
            }
            return super.visitBinary(tree, v);
        }

        @Override
        public Void visitCompoundAssignment(CompoundAssignmentTree tree, Void v) {
            due(!type(tree.getVariable()).equals("java.lang.String"), "rule 10", tree);
            if (floating(tree.getVariable())) {
                due(ON_DOUBLES.contains(tree.getKind().name()), "rule 3", tree);
            }
            return super.visitCompoundAssignment(tree, v);
        }

        @Override
        public Void visitUnary(UnaryTree tree, Void v) {
            due(!floating(tree.getExpression()) || ON_DOUBLES.contains(tree.getKind().name()), "rule 3", tree);
            return super.visitUnary(tree, v);
        }

        @Override
        public Void visitAssignment(AssignmentTree tree, Void v) {
            Element to = element(tree.getVariable());
            due(to == null || !to.getModifiers().contains(Modifier.STATIC), "rule 5", tree);
            return super.visitAssignment(tree, v);
        }

        @Override
        public Void visitTypeCast(TypeCastTree tree, Void v) {
            due(trees.getTypeMirror(new TreePath(getCurrentPath(), tree.getType())).getKind().isPrimitive(),
                    "rule 6", tree);
            return super.visitTypeCast(tree, v);
        }

        /** A length that is a constant can't be negative by chance. */
        @Override
        public Void visitNewArray(NewArrayTree tree, Void v) {
            due(tree.getInitializers() == null && tree.getDimensions().size() == 1, "rule 3", tree);
            for (Tree length : tree.getDimensions()) {
                boolean constant = length.getKind() == Tree.Kind.INT_LITERAL
                        || length.toString().matches("[A-Z_.]+( \\* [A-Z_.]+)*|Setup\\.BOND_LIMIT");
                due(constant, "rule 7", tree);
            }
            return super.visitNewArray(tree, v);
        }

        @Override
        public Void visitForLoop(ForLoopTree tree, Void v) {
            due(tree.getCondition() != null && tree.getUpdate().size() == 1, "rule 9", tree);
            return super.visitForLoop(tree, v);
        }

        @Override
        public Void visitWhileLoop(WhileLoopTree tree, Void v) {
            String condition = tree.getCondition().toString();
            due(condition.startsWith("(position < length && ")
                    && tree.getStatement().toString().contains("position++"), "rule 9", tree);
            return super.visitWhileLoop(tree, v);
        }

        @Override
        public Void visitLiteral(LiteralTree tree, Void v) {
            due(tree.getKind() != Tree.Kind.NULL_LITERAL, "no null is needed", tree);
            return super.visitLiteral(tree, v);
        }

        @Override
        public Void visitDoWhileLoop(DoWhileLoopTree tree, Void v) {
            refuse("rule 9", tree);
            return super.visitDoWhileLoop(tree, v);
        }

        @Override
        public Void visitCatch(CatchTree tree, Void v) {
            refuse("rule 6", tree);
            return super.visitCatch(tree, v);
        }

        @Override
        public Void visitLambdaExpression(LambdaExpressionTree tree, Void v) {
            refuse("rule 2", tree);
            return super.visitLambdaExpression(tree, v);
        }

        @Override
        public Void visitMemberReference(MemberReferenceTree tree, Void v) {
            refuse("rule 2", tree);
            return super.visitMemberReference(tree, v);
        }

        @Override
        public Void visitInstanceOf(InstanceOfTree tree, Void v) {
            refuse("rule 6", tree);
            return super.visitInstanceOf(tree, v);
        }

        @Override
        public Void visitSynchronized(SynchronizedTree tree, Void v) {
            refuse("rule 6", tree);
            return super.visitSynchronized(tree, v);
        }

        @Override
        public Void visitAssert(AssertTree tree, Void v) {
            refuse("rule 6", tree);
            return super.visitAssert(tree, v);
        }
    }
}
