import com.sun.source.tree.*;
import com.sun.source.util.JavacTask;
import com.sun.source.util.TreePath;
import com.sun.source.util.TreePathScanner;
import com.sun.source.util.Trees;
import java.io.File;
import java.nio.file.Files;
import java.util.ArrayList;
import java.util.EnumSet;
import java.util.HashMap;
import java.util.HashSet;
import java.util.LinkedHashSet;
import java.util.List;
import java.util.Map;
import java.util.Set;
import javax.lang.model.element.Element;
import javax.lang.model.element.ElementKind;
import javax.lang.model.element.ExecutableElement;
import javax.lang.model.element.Modifier;
import javax.lang.model.element.TypeElement;
import javax.lang.model.element.VariableElement;
import javax.lang.model.type.ArrayType;
import javax.lang.model.type.TypeKind;
import javax.lang.model.type.TypeMirror;
import javax.tools.JavaCompiler;
import javax.tools.StandardJavaFileManager;
import javax.tools.ToolProvider;

/** The rules of ../shared/LANGUAGE.md that can be told from the class's text alone, by javac's own reading of it. */
public final class RulesTest {
    private static final File SOURCE = new File("src/main/java/ColdBox.java");
    private static final int CLASSES_MOST = 12, FIELDS_MOST = 20, LINES_MOST = 60, PARAMETERS_MOST = 7, DEPTH_MOST = 8;
    /** Rule 4, as far as the class needs it; what else the rule lists may be put here when it is used. */
    private static final Set<String> LIBRARY = Set.of("String.length", "String.charAt", "String.isEmpty", "String.equals",
        "System.arraycopy", "Arrays.fill", "Arrays.copyOf", "Arrays.copyOfRange", "Integer.bitCount", "Integer.compare",
        "Math.max", "Math.min", "Math.abs", "Math.floorDiv", "Math.floorMod", "Object.<init>");
    /** What the rules forbid, and of what they leave that which the class does without (while, casts of its own classes, ..). */
    private static final Set<Tree.Kind> NEVER = EnumSet.of(Tree.Kind.THROW, Tree.Kind.TRY, Tree.Kind.CATCH, Tree.Kind.SYNCHRONIZED,
        Tree.Kind.ASSERT, Tree.Kind.LAMBDA_EXPRESSION, Tree.Kind.MEMBER_REFERENCE, Tree.Kind.INSTANCE_OF, Tree.Kind.TYPE_CAST,
        Tree.Kind.FLOAT_LITERAL, Tree.Kind.DOUBLE_LITERAL, Tree.Kind.ENUM, Tree.Kind.RECORD, Tree.Kind.ANNOTATION,
        Tree.Kind.WHILE_LOOP, Tree.Kind.DO_WHILE_LOOP, Tree.Kind.SWITCH_EXPRESSION);
    private static int wrong = 0;
    private static int asked = 0;

    public static void main(String[] args) throws Exception {
        JavaCompiler compiler = ToolProvider.getSystemJavaCompiler();
        StandardJavaFileManager files = compiler.getStandardFileManager(null, null, null);
        JavacTask task = (JavacTask) compiler.getTask(null, files, null, List.of("-proc:none"), null,
            files.getJavaFileObjects(SOURCE));
        CompilationUnitTree unit = task.parse().iterator().next();
        task.analyze();
        Rules rules = new Rules(unit, Trees.instance(task));
        rules.scan(unit, null);
        rules.behind();
        for (char c : Files.readString(SOURCE.toPath()).toCharArray()) {
            if (c > 126) due(3, "sign " + (int) c, false);
        }
        System.out.println("RulesTest: " + asked + " answers, " + wrong + " wrong");
        if (wrong != 0) System.exit(1);
    }

    private static void due(int rule, String what, boolean holds) {
        asked++;
        if (holds) return;
        wrong++;
        System.out.println("rule " + rule + ": " + what);
    }

    private static final class Rules extends TreePathScanner<Void, Void> {
        private final CompilationUnitTree unit;
        private final Trees trees;
        private final Map<Element, Set<Element>> calls = new HashMap<>();
        private final Set<String> publicNames = new HashSet<>();
        private final List<ExecutableElement> methods = new ArrayList<>();
        private int classes = 0;

        Rules(CompilationUnitTree unit, Trees trees) {
            this.unit = unit;
            this.trees = trees;
        }

        private Element element() {
            return trees.getElement(getCurrentPath());
        }

        private String at(Tree tree) {
            return "line " + unit.getLineMap().getLineNumber(trees.getSourcePositions().getStartPosition(unit, tree)) + ": ";
        }

        private ExecutableElement methodAround() {
            for (TreePath p = getCurrentPath(); p != null; p = p.getParentPath()) {
                if (p.getLeaf().getKind() == Tree.Kind.METHOD) return (ExecutableElement) trees.getElement(p);
            }
            return null;
        }

        private static boolean isOwn(Element e) {
            for (Element c = e; c != null; c = c.getEnclosingElement()) {
                if (c.getSimpleName().contentEquals("ColdBox")) return true;
            }
            return false;
        }

        private static boolean isNumber(TypeMirror type) {
            return type.getKind().isPrimitive() && type.getKind() != TypeKind.BOOLEAN;
        }

        /** Rule 3, as far as the class needs it. */
        private static boolean isPlain(TypeMirror type) {
            if (type.getKind().isPrimitive()) return type.getKind() != TypeKind.DOUBLE && type.getKind() != TypeKind.FLOAT;
            if (type.getKind() == TypeKind.VOID || type.toString().equals("java.lang.String")) return true;
            if (type.getKind() == TypeKind.DECLARED) return type.toString().startsWith("ColdBox");
            if (type.getKind() != TypeKind.ARRAY) return false;
            TypeMirror part = ((ArrayType) type).getComponentType();
            return part.getKind() == TypeKind.ARRAY ? isNumber(((ArrayType) part).getComponentType()) : isPlain(part);
        }

        @Override
        public Void scan(Tree tree, Void v) {
            if (tree != null) due(6, at(tree) + tree.getKind(), !NEVER.contains(tree.getKind()) || isNumberCast(tree));
            return super.scan(tree, v);
        }

        private boolean isNumberCast(Tree tree) {
            return tree instanceof TypeCastTree && ((TypeCastTree) tree).getType().getKind() == Tree.Kind.PRIMITIVE_TYPE;
        }

        @Override
        public Void visitImport(ImportTree tree, Void v) {
            String name = tree.getQualifiedIdentifier().toString();
            due(4, "import " + name, !tree.isStatic() && Set.of("java.util.Arrays", "java.util.ArrayList", "java.util.List").contains(name));
            return super.visitImport(tree, v);
        }

        @Override
        public Void visitClass(ClassTree tree, Void v) {
            TypeElement e = (TypeElement) element();
            classes++;
            boolean outer = e.getEnclosingElement().getKind() == ElementKind.PACKAGE;
            Set<Modifier> are = e.getModifiers();
            if (outer) due(1, at(tree) + "the class of the document is public and final",
                e.getSimpleName().contentEquals("ColdBox") && are.contains(Modifier.PUBLIC) && are.contains(Modifier.FINAL));
            else due(2, at(tree) + "a static nested class, private or package-visible", are.contains(Modifier.STATIC)
                && !are.contains(Modifier.PUBLIC) && !are.contains(Modifier.PROTECTED) && isOwn(e.getEnclosingElement()));
            due(2, at(tree) + "no local or anonymous class", getCurrentPath().getParentPath().getLeaf() instanceof ClassTree || outer);
            int fields = 0;
            for (Tree member : tree.getMembers()) {
                due(5, at(member) + "no initialiser block", member.getKind() != Tree.Kind.BLOCK);
                if (member instanceof VariableTree
                    && !((VariableTree) member).getModifiers().getFlags().contains(Modifier.STATIC)) fields++;
            }
            due(11, at(tree) + "fields " + fields, fields <= FIELDS_MOST);
            return super.visitClass(tree, v);
        }

        @Override
        public Void visitMethod(MethodTree tree, Void v) {
            ExecutableElement e = (ExecutableElement) element();
            methods.add(e);
            calls.computeIfAbsent(e, k -> new LinkedHashSet<>());
            boolean ofFace = e.getEnclosingElement().getSimpleName().contentEquals("ColdBox");
            boolean isPublic = e.getModifiers().contains(Modifier.PUBLIC);
            if (ofFace) {
                due(1, at(tree) + tree.getName() + " is public or private", isPublic || e.getModifiers().contains(Modifier.PRIVATE));
                if (isPublic && e.getKind() == ElementKind.METHOD) publicNames.add(tree.getName().toString());
            }
            due(11, at(tree) + tree.getName() + " has parameters " + tree.getParameters().size(),
                tree.getParameters().size() <= PARAMETERS_MOST);
            due(11, at(tree) + tree.getName() + " is long", linesOf(tree) <= LINES_MOST);
            due(3, at(tree) + tree.getName() + " answers " + e.getReturnType(), isPlain(e.getReturnType()));
            due(6, at(tree) + tree.getName(), !Set.of("equals", "hashCode", "toString").contains(tree.getName().toString()));
            due(6, at(tree) + tree.getName() + " throws", tree.getThrows().isEmpty());
            return super.visitMethod(tree, v);
        }

        private long linesOf(Tree tree) {
            long end = trees.getSourcePositions().getEndPosition(unit, tree);
            if (end < 0) return 1;
            return unit.getLineMap().getLineNumber(end)
                - unit.getLineMap().getLineNumber(trees.getSourcePositions().getStartPosition(unit, tree)) + 1;
        }

        @Override
        public Void visitVariable(VariableTree tree, Void v) {
            VariableElement e = (VariableElement) element();
            due(3, at(tree) + tree.getName() + " is " + e.asType(), isPlain(e.asType()));
            if (e.getKind() == ElementKind.FIELD) {
                Set<Modifier> are = e.getModifiers();
                if (are.contains(Modifier.STATIC)) staticField(tree, e);
                else due(1, at(tree) + tree.getName() + " is private", are.contains(Modifier.PRIVATE));
            }
            return super.visitVariable(tree, v);
        }

        private void staticField(VariableTree tree, VariableElement e) {
            due(5, at(tree) + tree.getName() + " is final", e.getModifiers().contains(Modifier.FINAL));
            boolean isRow = e.asType().getKind() == TypeKind.ARRAY;
            if (isRow) due(5, at(tree) + tree.getName() + " is written out", isWrittenOut(tree.getInitializer(), e.asType()));
            else due(5, at(tree) + tree.getName() + " is a constant", e.getConstantValue() != null);
        }

        private static boolean isWrittenOut(ExpressionTree init, TypeMirror type) {
            return init instanceof NewArrayTree && ((NewArrayTree) init).getInitializers() != null
                && Set.of("int[]", "long[]", "char[]", "byte[]").contains(type.toString());
        }

        @Override
        public Void visitMethodInvocation(MethodInvocationTree tree, Void v) {
            called(tree, (ExecutableElement) element());
            return super.visitMethodInvocation(tree, v);
        }

        @Override
        public Void visitNewClass(NewClassTree tree, Void v) {
            due(12, at(tree) + "new ahead of all calls", methodAround() == null && tree.getClassBody() == null);
            called(tree, (ExecutableElement) element());
            return super.visitNewClass(tree, v);
        }

        @Override
        public Void visitNewArray(NewArrayTree tree, Void v) {
            due(12, at(tree) + "a row is made ahead of all calls", methodAround() == null);
            return super.visitNewArray(tree, v);
        }

        private void called(Tree tree, ExecutableElement to) {
            String name = to.getEnclosingElement().getSimpleName() + "." + to.getSimpleName();
            if (!isOwn(to)) {
                due(4, at(tree) + name, LIBRARY.contains(name));
            } else if (methodAround() != null) {
                calls.computeIfAbsent(methodAround(), k -> new LinkedHashSet<>()).add(to);
            }
        }

        @Override
        public Void visitAssignment(AssignmentTree tree, Void v) {
            setOnly(tree, tree.getVariable());
            return super.visitAssignment(tree, v);
        }

        @Override
        public Void visitCompoundAssignment(CompoundAssignmentTree tree, Void v) {
            setOnly(tree, tree.getVariable());
            due(10, at(tree) + "no joining of texts", !isText(tree.getVariable()));
            return super.visitCompoundAssignment(tree, v);
        }

        @Override
        public Void visitUnary(UnaryTree tree, Void v) {
            boolean sets = EnumSet.of(Tree.Kind.PREFIX_INCREMENT, Tree.Kind.PREFIX_DECREMENT, Tree.Kind.POSTFIX_INCREMENT,
                Tree.Kind.POSTFIX_DECREMENT).contains(tree.getKind());
            if (sets) setOnly(tree, tree.getExpression());
            return super.visitUnary(tree, v);
        }

        private void setOnly(Tree statement, ExpressionTree what) {
            ExpressionTree row = what instanceof ArrayAccessTree ? ((ArrayAccessTree) what).getExpression() : what;
            Element e = trees.getElement(new TreePath(getCurrentPath(), row));
            boolean isStatic = e != null && e.getKind() == ElementKind.FIELD && e.getModifiers().contains(Modifier.STATIC);
            due(5, at(statement) + "no static row is changed", !isStatic);
        }

        private boolean isText(Tree tree) {
            TypeMirror type = trees.getTypeMirror(new TreePath(getCurrentPath(), tree));
            return type != null && type.toString().equals("java.lang.String");
        }

        @Override
        public Void visitBinary(BinaryTree tree, Void v) {
            boolean text = isText(tree.getLeftOperand()) || isText(tree.getRightOperand());
            due(10, at(tree) + "no joining of texts, no == of texts", !text);
            return super.visitBinary(tree, v);
        }

        @Override
        public Void visitForLoop(ForLoopTree tree, Void v) {
            due(9, at(tree) + "a loop with a bound and a step", tree.getCondition() != null && tree.getUpdate().size() == 1);
            return super.visitForLoop(tree, v);
        }

        /** What can be told only when all was read. */
        void behind() {
            due(11, "classes " + classes, classes <= CLASSES_MOST);
            for (ExecutableElement e : methods) {
                boolean isPrivate = !e.getModifiers().contains(Modifier.PUBLIC);
                due(1, e + " bears no public one's name", !isPrivate || !publicNames.contains(e.getSimpleName().toString()));
                if (!isPrivate) due(11, e.getSimpleName() + " goes deep: " + depthOf(e, new LinkedHashSet<>()),
                    depthOf(e, new LinkedHashSet<>()) <= DEPTH_MOST);
            }
        }

        /** How many calls stand open at most, the method's own, too; a method that comes again is recursion. */
        private int depthOf(Element e, Set<Element> open) {
            if (!open.add(e)) {
                due(8, e + " is called again from " + open, false);
                return 0;
            }
            int most = 0;
            for (Element to : calls.getOrDefault(e, Set.of())) most = Math.max(most, depthOf(to, open));
            open.remove(e);
            return most + 1;
        }
    }
}
