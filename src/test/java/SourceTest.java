import com.sun.source.tree.ArrayAccessTree;
import com.sun.source.tree.AssignmentTree;
import com.sun.source.tree.BinaryTree;
import com.sun.source.tree.ClassTree;
import com.sun.source.tree.CompilationUnitTree;
import com.sun.source.tree.CompoundAssignmentTree;
import com.sun.source.tree.ExpressionTree;
import com.sun.source.tree.ForLoopTree;
import com.sun.source.tree.IdentifierTree;
import com.sun.source.tree.ImportTree;
import com.sun.source.tree.LiteralTree;
import com.sun.source.tree.MemberSelectTree;
import com.sun.source.tree.MethodInvocationTree;
import com.sun.source.tree.MethodTree;
import com.sun.source.tree.NewArrayTree;
import com.sun.source.tree.NewClassTree;
import com.sun.source.tree.Tree;
import com.sun.source.tree.TypeCastTree;
import com.sun.source.tree.UnaryTree;
import com.sun.source.tree.VariableTree;
import com.sun.source.util.JavacTask;
import com.sun.source.util.SourcePositions;
import com.sun.source.util.TreePath;
import com.sun.source.util.TreePathScanner;
import com.sun.source.util.Trees;
import java.io.IOException;
import java.nio.file.Path;
import java.util.ArrayList;
import java.util.EnumSet;
import java.util.HashMap;
import java.util.LinkedHashMap;
import java.util.LinkedHashSet;
import java.util.List;
import java.util.Map;
import java.util.Set;
import javax.lang.model.element.Element;
import javax.lang.model.element.ElementKind;
import javax.lang.model.element.ExecutableElement;
import javax.lang.model.element.Modifier;
import javax.lang.model.element.TypeElement;
import javax.lang.model.element.VariableElement;
import javax.lang.model.type.ArrayType;
import javax.lang.model.type.TypeKind;
import javax.lang.model.type.TypeMirror;
import javax.tools.JavaCompiler;
import javax.tools.StandardJavaFileManager;
import javax.tools.ToolProvider;

/** The rules of LANGUAGE.md that can be seen from the program's own text, as the compiler reads it. */
public final class SourceTest {
    private static final Path PROGRAM = Path.of("src/main/java/TwinFires.java");
    private static final int DEEPEST = 8, LONGEST = 60;
    private static final Set<String> LIBRARY = Set.of("java.util.Arrays.fill", "java.util.Arrays.copyOf",
            "java.util.Arrays.copyOfRange", "java.lang.System.arraycopy", "java.lang.String.length",
            "java.lang.String.charAt", "java.lang.Integer.bitCount", "java.lang.Math.abs", "java.lang.Math.min",
            "java.lang.Math.max", "java.lang.Object.<init>");
    private static final Set<Tree.Kind> LEFT_OUT = EnumSet.of(Tree.Kind.THROW, Tree.Kind.TRY, Tree.Kind.CATCH,
            Tree.Kind.SYNCHRONIZED, Tree.Kind.ASSERT, Tree.Kind.LAMBDA_EXPRESSION, Tree.Kind.MEMBER_REFERENCE,
            Tree.Kind.PACKAGE);
    private static int wrong = 0;

    public static void main(String[] args) throws IOException {
        JavaCompiler compiler = ToolProvider.getSystemJavaCompiler();
        try (StandardJavaFileManager files = compiler.getStandardFileManager(null, null, null)) {
            JavacTask task = (JavacTask) compiler.getTask(null, files, null, List.of("-proc:none"), null,
                    files.getJavaFileObjects(PROGRAM));
            Iterable<? extends CompilationUnitTree> units = task.parse();
            task.analyze();
            for (CompilationUnitTree unit : units) {
                Reader reader = new Reader(task, unit);
                reader.scan(unit, null);
                reader.depths();
            }
        }
        System.out.println(wrong == 0 ? "the program keeps to its language" : wrong + " rules are broken");
        if (wrong != 0) {
            System.exit(1);
        }
    }

    private static final class Reader extends TreePathScanner<Void, Void> {
        private final Trees trees;
        private final SourcePositions places;
        private final JavacTask task;
        private final CompilationUnitTree unit;
        /** By a method, or by a class for its fields' values: what it calls by super or new. */
        private final Map<Element, Set<ExecutableElement>> calls = new LinkedHashMap<>();
        /** What it calls else: what overrides these may be called there, too. */
        private final Map<Element, Set<ExecutableElement>> openCalls = new LinkedHashMap<>();
        private final Map<ExecutableElement, List<String>> deepest = new HashMap<>();
        private final Set<ExecutableElement> open = new LinkedHashSet<>();
        private Element inside;

        Reader(JavacTask task, CompilationUnitTree unit) {
            this.task = task;
            this.unit = unit;
            trees = Trees.instance(task);
            places = trees.getSourcePositions();
        }

        private long line(long place) {
            return unit.getLineMap().getLineNumber(place);
        }

        private void keep(boolean kept, Tree tree, String rule) {
            if (!kept) {
                wrong++;
                System.out.println("line " + line(places.getStartPosition(unit, tree)) + ", " + rule);
            }
        }

        private Element element(Tree tree) {
            return trees.getElement(TreePath.getPath(unit, tree));
        }

        private TypeMirror type(Tree tree) {
            return trees.getTypeMirror(TreePath.getPath(unit, tree));
        }

        private static boolean isOwn(Element element) {
            for (Element e = element; e != null; e = e.getEnclosingElement()) {
                if (e.getKind() == ElementKind.CLASS && ((TypeElement) e).getQualifiedName().contentEquals("TwinFires")) {
                    return true;
                }
            }
            return false;
        }

        private static String name(Element element) {
            return element.getEnclosingElement() + "." + element.getSimpleName();
        }

        @Override
        public Void scan(Tree tree, Void none) {
            keep(tree == null || !LEFT_OUT.contains(tree.getKind()), tree, "rules 2, 6: " + (tree == null ? "" : tree.getKind()));
            return super.scan(tree, none);
        }

        @Override
        public Void visitImport(ImportTree tree, Void none) {
            keep(tree.getQualifiedIdentifier().toString().equals("java.util.Arrays"), tree, "rule 4: " + tree);
            return null;
        }

        @Override
        public Void visitClass(ClassTree tree, Void none) {
            Element was = inside;
            inside = element(tree);
            calls.put(inside, new LinkedHashSet<>());
            openCalls.put(inside, new LinkedHashSet<>());
            Element parent = inside.getEnclosingElement();
            boolean isMember = parent.getKind() == ElementKind.CLASS || parent.getKind() == ElementKind.PACKAGE;
            keep(isMember && tree.getSimpleName().length() > 0, tree, "rule 2: a class inside a method");
            for (Tree member : tree.getMembers()) {
                keep(member.getKind() != Tree.Kind.BLOCK, member, "rule 5: a block that initialises");
            }
            super.visitClass(tree, none);
            inside = was;
            return null;
        }

        @Override
        public Void visitMethod(MethodTree tree, Void none) {
            Element was = inside;
            inside = element(tree);
            calls.put(inside, new LinkedHashSet<>());
            openCalls.put(inside, new LinkedHashSet<>());
            long end = places.getEndPosition(unit, tree);
            // A constructor that is not written out has no end.
            long lines = end < 0 ? 0 : line(end) - line(places.getStartPosition(unit, tree)) + 1;
            keep(lines <= LONGEST, tree, "rule 11: " + tree.getName() + " has " + lines + " lines");
            keep(tree.getParameters().size() <= 7, tree, "rule 11: parameters of " + tree.getName());
            super.visitMethod(tree, none);
            inside = was;
            return null;
        }

        @Override
        public Void visitVariable(VariableTree tree, Void none) {
            Element variable = element(tree);
            keep(isKnown(variable.asType()), tree, "rule 3: " + variable.asType());
            if (variable.getModifiers().contains(Modifier.STATIC)) {
                keep(isConstant(variable, tree.getInitializer()), tree, "rule 5: " + tree.getName());
            }
            return super.visitVariable(tree, none);
        }

        private boolean isKnown(TypeMirror type) {
            if (type.getKind() == TypeKind.ARRAY) {
                TypeMirror of = ((ArrayType) type).getComponentType();
                boolean isOfRows = of.getKind() == TypeKind.ARRAY && ((ArrayType) of).getComponentType().getKind().isPrimitive();
                return isOfRows || of.getKind().isPrimitive() || isOwn(task.getTypes().asElement(of));
            }
            return type.getKind().isPrimitive() || type.toString().equals("java.lang.String")
                    || isOwn(task.getTypes().asElement(type));
        }

        private boolean isConstant(Element variable, ExpressionTree value) {
            boolean isFinal = variable.getModifiers().contains(Modifier.FINAL);
            if (variable.asType().getKind() != TypeKind.ARRAY) {
                return isFinal && ((VariableElement) variable).getConstantValue() != null;
            }
            if (!isFinal || !(value instanceof NewArrayTree) || ((NewArrayTree) value).getInitializers() == null) {
                return false;
            }
            for (ExpressionTree one : ((NewArrayTree) value).getInitializers()) {
                if (!(one instanceof LiteralTree)) {
                    return false;
                }
            }
            return true;
        }

        /** An array that is constant is only read: no element of it is set, and it is handed to none. */
        @Override
        public Void visitIdentifier(IdentifierTree tree, Void none) {
            Element named = element(tree);
            boolean isStaticArray = named != null && named.getKind() == ElementKind.FIELD
                    && named.getModifiers().contains(Modifier.STATIC) && named.asType().getKind() == TypeKind.ARRAY;
            if (isStaticArray) {
                Tree parent = getCurrentPath().getParentPath().getLeaf();
                Tree over = getCurrentPath().getParentPath().getParentPath().getLeaf();
                boolean isRead = parent instanceof ArrayAccessTree && ((ArrayAccessTree) parent).getExpression() == tree
                        && !(over instanceof UnaryTree) && !(over instanceof CompoundAssignmentTree)
                        && !(over instanceof AssignmentTree && ((AssignmentTree) over).getVariable() == parent);
                keep(isRead, tree, "rule 5: " + tree.getName() + " may be changed");
            }
            return super.visitIdentifier(tree, none);
        }

        @Override
        public Void visitBinary(BinaryTree tree, Void none) {
            boolean texts = type(tree.getLeftOperand()).toString().equals("java.lang.String")
                    || type(tree.getRightOperand()).toString().equals("java.lang.String");
            keep(!texts, tree, "rules 6, 10: texts by " + tree.getKind());
            boolean divides = tree.getKind() == Tree.Kind.DIVIDE || tree.getKind() == Tree.Kind.REMAINDER;
            keep(!divides || isSafeDivisor(tree), tree, "rule 7: a divisor that is not looked at: " + tree);
            return super.visitBinary(tree, none);
        }

        /** A number that is written out, or one that the same method looks at against 0. */
        private boolean isSafeDivisor(BinaryTree tree) {
            if (tree.getRightOperand() instanceof LiteralTree) {
                return !tree.getRightOperand().toString().equals("0");
            }
            String method = trees.getTree(inside).toString();
            return method.contains(tree.getRightOperand() + " != 0") || method.contains(tree.getRightOperand() + " > 0");
        }

        @Override
        public Void visitTypeCast(TypeCastTree tree, Void none) {
            keep(type(tree).getKind().isPrimitive(), tree, "rule 6: " + tree);
            return super.visitTypeCast(tree, none);
        }

        @Override
        public Void visitForLoop(ForLoopTree tree, Void none) {
            keep(tree.getCondition() != null && !tree.getUpdate().isEmpty(), tree, "rule 9: a loop without an end");
            return super.visitForLoop(tree, none);
        }

        @Override
        public Void visitMemberSelect(MemberSelectTree tree, Void none) {
            Element named = element(tree);
            boolean isField = named != null && named.getKind() == ElementKind.FIELD;
            keep(!isField || isOwn(named) || tree.getIdentifier().contentEquals("length"), tree, "rule 4: " + tree);
            return super.visitMemberSelect(tree, none);
        }

        @Override
        public Void visitMethodInvocation(MethodInvocationTree tree, Void none) {
            boolean isSuper = tree.getMethodSelect().toString().startsWith("super");
            called((ExecutableElement) element(tree.getMethodSelect()), tree, isSuper);
            return super.visitMethodInvocation(tree, none);
        }

        @Override
        public Void visitNewClass(NewClassTree tree, Void none) {
            keep(tree.getClassBody() == null, tree, "rule 2: a class without a name");
            called((ExecutableElement) element(tree), tree, true);
            return super.visitNewClass(tree, none);
        }

        private void called(ExecutableElement method, Tree tree, boolean isJustThis) {
            keep(isOwn(method) || LIBRARY.contains(name(method)), tree, "rule 4: " + name(method));
            (isJustThis ? calls : openCalls).get(inside).add(method);
        }

        void depths() {
            for (Element method : calls.keySet()) {
                if (method instanceof ExecutableElement && method.getModifiers().contains(Modifier.PUBLIC)) {
                    List<String> way = way((ExecutableElement) method);
                    keep(way.size() <= DEEPEST, unit, "rule 11: " + way.size() + " calls deep: " + way);
                }
            }
        }

        /** The longest row of calls from a method on, the library's last ones, too. */
        private List<String> way(ExecutableElement method) {
            if (deepest.containsKey(method)) {
                return deepest.get(method);
            }
            if (!open.add(method)) {
                keep(false, unit, "rule 8: a method comes back to itself: " + name(method));
                return List.of();
            }
            List<String> longest = List.of();
            for (ExecutableElement next : calledBy(method)) {
                List<String> way = way(next);
                longest = way.size() > longest.size() ? way : longest;
            }
            open.remove(method);
            List<String> all = new ArrayList<>();
            all.add(name(method));
            all.addAll(longest);
            deepest.put(method, all);
            return all;
        }

        private Set<ExecutableElement> calledBy(ExecutableElement method) {
            Set<ExecutableElement> all = new LinkedHashSet<>();
            addCalls(all, method);
            if (method.getKind() == ElementKind.CONSTRUCTOR) {
                addCalls(all, method.getEnclosingElement());
            }
            return all;
        }

        private void addCalls(Set<ExecutableElement> all, Element caller) {
            all.addAll(calls.getOrDefault(caller, Set.of()));
            for (ExecutableElement called : openCalls.getOrDefault(caller, Set.of())) {
                all.add(called);
                for (Element other : calls.keySet()) {
                    if (other instanceof ExecutableElement && task.getElements().overrides((ExecutableElement) other,
                            called, (TypeElement) other.getEnclosingElement())) {
                        all.add((ExecutableElement) other);
                    }
                }
            }
        }
    }
}
