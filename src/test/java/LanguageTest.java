import com.sun.source.tree.ArrayAccessTree;
import com.sun.source.tree.AssertTree;
import com.sun.source.tree.AssignmentTree;
import com.sun.source.tree.BinaryTree;
import com.sun.source.tree.BlockTree;
import com.sun.source.tree.CatchTree;
import com.sun.source.tree.ClassTree;
import com.sun.source.tree.CompilationUnitTree;
import com.sun.source.tree.CompoundAssignmentTree;
import com.sun.source.tree.DoWhileLoopTree;
import com.sun.source.tree.ExpressionTree;
import com.sun.source.tree.ForLoopTree;
import com.sun.source.tree.ImportTree;
import com.sun.source.tree.InstanceOfTree;
import com.sun.source.tree.LambdaExpressionTree;
import com.sun.source.tree.LiteralTree;
import com.sun.source.tree.MemberReferenceTree;
import com.sun.source.tree.MethodInvocationTree;
import com.sun.source.tree.MethodTree;
import com.sun.source.tree.NewArrayTree;
import com.sun.source.tree.NewClassTree;
import com.sun.source.tree.SynchronizedTree;
import com.sun.source.tree.ThrowTree;
import com.sun.source.tree.Tree;
import com.sun.source.tree.TryTree;
import com.sun.source.tree.UnaryTree;
import com.sun.source.tree.VariableTree;
import com.sun.source.tree.WhileLoopTree;
import com.sun.source.util.JavacTask;
import com.sun.source.util.SourcePositions;
import com.sun.source.util.TreePath;
import com.sun.source.util.TreePathScanner;
import com.sun.source.util.Trees;
import java.io.File;
import java.io.IOException;
import java.util.ArrayList;
import java.util.HashMap;
import java.util.LinkedHashSet;
import java.util.List;
import java.util.Map;
import java.util.Set;
import java.util.TreeSet;
import javax.lang.model.element.Element;
import javax.lang.model.element.ElementKind;
import javax.lang.model.element.ExecutableElement;
import javax.lang.model.element.Modifier;
import javax.lang.model.element.TypeElement;
import javax.lang.model.type.ArrayType;
import javax.lang.model.type.TypeKind;
import javax.lang.model.type.TypeMirror;
import javax.tools.StandardJavaFileManager;
import javax.tools.ToolProvider;

/**
 * What LANGUAGE.md says of the source, as far as it can be read off there: what the class uses of the
 * language and of the library, where it makes objects, and how deep its calls go. (FormTest asks the
 * compiled class.) The class uses less than the rules leave; what it does not use is refused here, too,
 * so that a new use is looked at.
 */
public final class LanguageTest extends Checks {
    private static final String SOURCE = "src/main/java/ShareTickets.java";
    private static final int MOST_LINES = 60;
    private static final int MOST_PARAMETERS = 7;
    private static final int MOST_CLASSES = 12;
    private static final int MOST_FIELDS = 20;
    private static final int DEEPEST_CALL = 8;

    private static final Set<String> LIBRARY = Set.of("Math.abs", "Math.max", "Math.min", "System.arraycopy",
        "String.length", "String.charAt");
    private static final Set<String> EXCEPTIONS = Set.of("IllegalStateException", "IllegalArgumentException",
        "IndexOutOfBoundsException", "ArithmeticException", "UnsupportedOperationException", "NoSuchElementException",
        "RuntimeException");
    private static final Set<TypeKind> NUMBERS = Set.of(TypeKind.INT, TypeKind.LONG, TypeKind.SHORT, TypeKind.BYTE,
        TypeKind.CHAR, TypeKind.BOOLEAN, TypeKind.DOUBLE, TypeKind.FLOAT);

    private static final class Reader extends TreePathScanner<Void, Void> {
        private final Trees trees;
        private final CompilationUnitTree unit;
        private final Map<Element, Set<Element>> calls = new HashMap<>();
        private final Map<Element, Integer> depths = new HashMap<>();
        private int classes;
        private int methods;

        Reader(Trees trees, CompilationUnitTree unit) {
            this.trees = trees;
            this.unit = unit;
        }

        private String at(Tree tree) {
            long start = trees.getSourcePositions().getStartPosition(unit, tree);
            return "line " + unit.getLineMap().getLineNumber(start) + ": ";
        }

        private TypeMirror typeOf(Tree tree) {
            return trees.getTypeMirror(new TreePath(getCurrentPath(), tree));
        }

        private static boolean isText(TypeMirror type) {
            return String.valueOf(type).equals("java.lang.String");
        }

        private static boolean isFraction(TypeMirror type) {
            return type.getKind() == TypeKind.FLOAT || type.getKind() == TypeKind.DOUBLE;
        }

        private <T extends Tree> T around(Class<T> kind) {
            for (TreePath p = getCurrentPath().getParentPath(); p != null; p = p.getParentPath()) {
                if (kind.isInstance(p.getLeaf())) {
                    return kind.cast(p.getLeaf());
                }
            }
            return null;
        }

        private Element methodAround() {
            for (TreePath p = getCurrentPath(); p != null; p = p.getParentPath()) {
                if (p.getLeaf() instanceof MethodTree) {
                    return trees.getElement(p);
                }
            }
            return null;
        }

        private boolean inConstructor() {
            Element method = methodAround();
            return method != null && method.getKind() == ElementKind.CONSTRUCTOR;
        }

        private static boolean isOwn(Element element) {
            for (Element e = element; e != null; e = e.getEnclosingElement()) {
                if (e instanceof TypeElement && ((TypeElement) e).getQualifiedName().contentEquals("ShareTickets")) {
                    return true;
                }
            }
            return false;
        }

        @Override
        public Void visitImport(ImportTree tree, Void nothing) {
            same("java.util.NoSuchElementException", tree.getQualifiedIdentifier().toString(), at(tree) + "rule 4: the import");
            return super.visitImport(tree, nothing);
        }

        @Override
        public Void visitClass(ClassTree tree, Void nothing) {
            classes++;
            holds(tree.getKind() == Tree.Kind.CLASS, at(tree) + "rule 2: another kind of class");
            holds(tree.getExtendsClause() == null && tree.getImplementsClause().isEmpty() && tree.getTypeParameters().isEmpty(),
                at(tree) + "rule 12: a class over another one");
            int fields = 0;
            for (Tree member : tree.getMembers()) {
                if (member instanceof VariableTree
                    && !((VariableTree) member).getModifiers().getFlags().contains(Modifier.STATIC)) {
                    fields++;
                }
            }
            holds(fields <= MOST_FIELDS, at(tree) + "rule 11: " + fields + " fields");
            return super.visitClass(tree, nothing);
        }

        @Override
        public Void visitMethod(MethodTree tree, Void nothing) {
            methods++;
            SourcePositions positions = trees.getSourcePositions();
            long first = unit.getLineMap().getLineNumber(positions.getStartPosition(unit, tree));
            long end = positions.getEndPosition(unit, tree);
            long last = end < 0 ? first : unit.getLineMap().getLineNumber(end);
            holds(last - first < MOST_LINES, at(tree) + "rule 11: a method of " + (last - first + 1) + " lines");
            holds(tree.getParameters().size() <= MOST_PARAMETERS, at(tree) + "rule 11: too many parameters");
            holds(!Set.of("equals", "hashCode", "toString").contains(tree.getName().toString()), at(tree) + "rule 6: " + tree.getName());
            calls.computeIfAbsent(trees.getElement(getCurrentPath()), m -> new LinkedHashSet<>());
            return super.visitMethod(tree, nothing);
        }

        @Override
        public Void visitVariable(VariableTree tree, Void nothing) {
            TypeMirror type = trees.getTypeMirror(getCurrentPath());
            TypeMirror held = type;
            if (type.getKind() == TypeKind.ARRAY) {
                held = ((ArrayType) type).getComponentType();
            }
            boolean ownClass = String.valueOf(held).startsWith("ShareTickets");
            holds(NUMBERS.contains(held.getKind()) || isText(held) || ownClass, at(tree) + "rule 3: the type " + type);
            if (tree.getModifiers().getFlags().contains(Modifier.STATIC)) {
                holds(tree.getModifiers().getFlags().contains(Modifier.FINAL), at(tree) + "rule 5: a static field that is not final");
                holds(!ownClass, at(tree) + "rule 5: a static field of the type " + type);
                ExpressionTree value = tree.getInitializer();
                holds(value != null && (type.getKind() != TypeKind.ARRAY || isWrittenOut(value)),
                    at(tree) + "rule 5: a static field that is not written out");
            }
            return super.visitVariable(tree, nothing);
        }

        private static boolean isWrittenOut(ExpressionTree value) {
            return value instanceof NewArrayTree && ((NewArrayTree) value).getInitializers() != null;
        }

        @Override
        public Void visitBlock(BlockTree tree, Void nothing) {
            holds(!(getCurrentPath().getParentPath().getLeaf() instanceof ClassTree), at(tree) + "rule 5: an initialiser block");
            return super.visitBlock(tree, nothing);
        }

        /** Arrays written out in static fields are never changed. */
        private void changes(ExpressionTree changed) {
            if (changed instanceof ArrayAccessTree) {
                TreePath row = new TreePath(new TreePath(getCurrentPath(), changed), ((ArrayAccessTree) changed).getExpression());
                Element element = trees.getElement(row);
                holds(element == null || !element.getModifiers().contains(Modifier.STATIC), at(changed) + "rule 5: a change of a static array");
            }
        }

        @Override
        public Void visitAssignment(AssignmentTree tree, Void nothing) {
            changes(tree.getVariable());
            return super.visitAssignment(tree, nothing);
        }

        @Override
        public Void visitCompoundAssignment(CompoundAssignmentTree tree, Void nothing) {
            changes(tree.getVariable());
            holds(!isText(typeOf(tree.getVariable())), at(tree) + "rule 10: texts joined by +");
            return super.visitCompoundAssignment(tree, nothing);
        }

        @Override
        public Void visitUnary(UnaryTree tree, Void nothing) {
            changes(tree.getExpression());
            return super.visitUnary(tree, nothing);
        }

        @Override
        public Void visitBinary(BinaryTree tree, Void nothing) {
            TypeMirror left = typeOf(tree.getLeftOperand());
            TypeMirror right = typeOf(tree.getRightOperand());
            Tree.Kind kind = tree.getKind();
            holds(kind != Tree.Kind.PLUS || !isText(left) && !isText(right), at(tree) + "rule 10: texts joined by +");
            holds(kind != Tree.Kind.EQUAL_TO && kind != Tree.Kind.NOT_EQUAL_TO || !isText(left) && !isText(right),
                at(tree) + "rule 6: == of texts");
            holds(kind != Tree.Kind.REMAINDER || !isFraction(left) && !isFraction(right), at(tree) + "rule 3: % of fractions");
            return super.visitBinary(tree, nothing);
        }

        @Override
        public Void visitMethodInvocation(MethodInvocationTree tree, Void nothing) {
            Element called = trees.getElement(getCurrentPath());
            if (isOwn(called)) {
                Element caller = methodAround();
                holds(caller != null, at(tree) + "rule 12: a field that a call fills");
                calls.computeIfAbsent(caller, m -> new LinkedHashSet<>()).add(called);
            } else if (called.getKind() != ElementKind.CONSTRUCTOR) {
                String name = called.getEnclosingElement().getSimpleName() + "." + called.getSimpleName();
                holds(LIBRARY.contains(name), at(tree) + "rule 4: " + name);
                for (ExpressionTree argument : tree.getArguments()) {
                    holds(!isFraction(typeOf(argument)), at(tree) + "rule 3: " + name + " of a fraction");
                }
            }
            return super.visitMethodInvocation(tree, nothing);
        }

        /** Rows are made with the object alone; behind that only exceptions are made. */
        @Override
        public Void visitNewClass(NewClassTree tree, Void nothing) {
            boolean thrown = getCurrentPath().getParentPath().getLeaf() instanceof ThrowTree;
            boolean own = String.valueOf(typeOf(tree.getIdentifier())).startsWith("ShareTickets.");
            holds(thrown || own && (inConstructor() || around(MethodTree.class) == null), at(tree) + "rule 12: an object is made");
            holds(tree.getClassBody() == null, at(tree) + "rule 2: an anonymous class");
            return super.visitNewClass(tree, nothing);
        }

        @Override
        public Void visitNewArray(NewArrayTree tree, Void nothing) {
            holds(inConstructor() || around(MethodTree.class) == null, at(tree) + "rule 12: a row is made");
            holds(tree.getDimensions().size() <= 1, at(tree) + "rule 3: a row of rows");
            return super.visitNewArray(tree, nothing);
        }

        @Override
        public Void visitThrow(ThrowTree tree, Void nothing) {
            holds(!inConstructor(), at(tree) + "rule 6: a throw in a constructor");
            holds(tree.getExpression() instanceof NewClassTree, at(tree) + "rule 6: a throw of what was not made there");
            if (tree.getExpression() instanceof NewClassTree) {
                NewClassTree made = (NewClassTree) tree.getExpression();
                holds(EXCEPTIONS.contains(made.getIdentifier().toString()), at(tree) + "rule 6: " + made.getIdentifier());
                holds(made.getArguments().stream().allMatch(a -> a.getKind() == Tree.Kind.STRING_LITERAL),
                    at(tree) + "rule 6: a text that is not written");
            }
            return super.visitThrow(tree, nothing);
        }

        @Override
        public Void visitLiteral(LiteralTree tree, Void nothing) {
            String signs = tree.getValue() instanceof String || tree.getValue() instanceof Character ? tree.getValue().toString() : "";
            holds(signs.chars().allMatch(c -> c >= 1 && c <= 127), at(tree) + "rule 4: signs of a text");
            holds(tree.getKind() != Tree.Kind.NULL_LITERAL, at(tree) + "rule 7: null");
            return super.visitLiteral(tree, nothing);
        }

        /** Rule 9: an end that can be seen from the loop's own lines; a loop without a condition has none. */
        private void ends(Tree loop, ExpressionTree condition) {
            holds(condition != null && !condition.toString().matches("\\(?true\\)?"), at(loop) + "rule 9: a loop without a condition");
        }

        @Override
        public Void visitForLoop(ForLoopTree tree, Void nothing) {
            ends(tree, tree.getCondition());
            return super.visitForLoop(tree, nothing);
        }

        @Override
        public Void visitWhileLoop(WhileLoopTree tree, Void nothing) {
            ends(tree, tree.getCondition());
            return super.visitWhileLoop(tree, nothing);
        }

        @Override
        public Void visitDoWhileLoop(DoWhileLoopTree tree, Void nothing) {
            ends(tree, tree.getCondition());
            return super.visitDoWhileLoop(tree, nothing);
        }

        private Void refused(Tree tree, String rule) {
            holds(false, at(tree) + rule);
            return null;
        }

        @Override
        public Void visitLambdaExpression(LambdaExpressionTree tree, Void nothing) {
            return refused(tree, "rule 2: a lambda");
        }

        @Override
        public Void visitMemberReference(MemberReferenceTree tree, Void nothing) {
            return refused(tree, "rule 2: a method reference");
        }

        @Override
        public Void visitTry(TryTree tree, Void nothing) {
            return refused(tree, "rule 6: a try");
        }

        @Override
        public Void visitCatch(CatchTree tree, Void nothing) {
            return refused(tree, "rule 6: a catch");
        }

        @Override
        public Void visitSynchronized(SynchronizedTree tree, Void nothing) {
            return refused(tree, "rule 6: synchronized");
        }

        @Override
        public Void visitAssert(AssertTree tree, Void nothing) {
            return refused(tree, "rule 6: assert");
        }

        @Override
        public Void visitInstanceOf(InstanceOfTree tree, Void nothing) {
            return refused(tree, "rule 6: instanceof, which no class here needs");
        }

        /** How many calls stand open at once at most, from this method on; a method met again is a recursion. */
        int depth(Element method, List<Element> open) {
            if (open.contains(method)) {
                holds(false, "rule 8: a recursion of " + method);
                return 0;
            }
            Integer known = depths.get(method);
            if (known != null) {
                return known;
            }
            open.add(method);
            int deepest = 0;
            for (Element called : calls.getOrDefault(method, Set.of())) {
                deepest = Math.max(deepest, depth(called, open));
            }
            open.remove(open.size() - 1);
            depths.put(method, deepest + 1);
            return deepest + 1;
        }

        void end() {
            about("LANGUAGE.md");
            holds(unit.getPackageName() == null, "rule 1: a package line");
            is(1, unit.getTypeDecls().size(), "rule 1: classes of the file");
            holds(classes > 1 && classes <= MOST_CLASSES, "rule 11: " + classes + " classes");
            holds(methods > 28, "all methods were read: " + methods);
            Set<String> uncalled = new TreeSet<>();
            Set<Element> called = new LinkedHashSet<>();
            calls.values().forEach(called::addAll);
            for (Element method : calls.keySet()) {
                int depth = depth(method, new ArrayList<>());
                holds(depth <= DEEPEST_CALL, "rule 11: calls go " + depth + " deep from " + method);
                if (!called.contains(method) && method instanceof ExecutableElement
                    && method.getKind() == ElementKind.METHOD && !method.getModifiers().contains(Modifier.PUBLIC)) {
                    uncalled.add(method.toString());
                }
            }
            same("[]", uncalled.toString(), "methods that nothing calls");
        }
    }

    private static void read(String source) throws IOException {
        about("LANGUAGE.md");
        var compiler = ToolProvider.getSystemJavaCompiler();
        try (StandardJavaFileManager files = compiler.getStandardFileManager(null, null, null)) {
            JavacTask task = (JavacTask) compiler.getTask(null, files, null, List.of("-proc:none"), null,
                files.getJavaFileObjects(new File(source)));
            CompilationUnitTree unit = task.parse().iterator().next();
            task.analyze();
            Reader reader = new Reader(Trees.instance(task), unit);
            reader.scan(unit, null);
            reader.end();
        }
    }

    public static void main(String[] args) throws IOException {
        read(args.length > 0 ? args[0] : SOURCE);
        end("the source keeps to LANGUAGE.md");
    }
}
