import com.sun.source.tree.AssertTree;
import com.sun.source.tree.BinaryTree;
import com.sun.source.tree.BlockTree;
import com.sun.source.tree.ClassTree;
import com.sun.source.tree.CompilationUnitTree;
import com.sun.source.tree.CompoundAssignmentTree;
import com.sun.source.tree.EnhancedForLoopTree;
import com.sun.source.tree.ExpressionTree;
import com.sun.source.tree.ForLoopTree;
import com.sun.source.tree.InstanceOfTree;
import com.sun.source.tree.LambdaExpressionTree;
import com.sun.source.tree.MemberReferenceTree;
import com.sun.source.tree.MethodInvocationTree;
import com.sun.source.tree.MethodTree;
import com.sun.source.tree.NewArrayTree;
import com.sun.source.tree.NewClassTree;
import com.sun.source.tree.SynchronizedTree;
import com.sun.source.tree.ThrowTree;
import com.sun.source.tree.Tree;
import com.sun.source.tree.TryTree;
import com.sun.source.tree.TypeCastTree;
import com.sun.source.tree.VariableTree;
import com.sun.source.util.JavacTask;
import com.sun.source.util.TreePath;
import com.sun.source.util.TreePathScanner;
import com.sun.source.util.Trees;
import java.nio.file.Path;
import java.util.ArrayList;
import java.util.HashSet;
import java.util.LinkedHashMap;
import java.util.LinkedHashSet;
import java.util.List;
import java.util.Map;
import java.util.Set;
import javax.lang.model.element.Element;
import javax.lang.model.element.ElementKind;
import javax.lang.model.element.Modifier;
import javax.lang.model.element.NestingKind;
import javax.lang.model.element.TypeElement;
import javax.lang.model.type.ArrayType;
import javax.lang.model.type.TypeKind;
import javax.lang.model.type.TypeMirror;
import javax.tools.JavaCompiler;
import javax.tools.StandardJavaFileManager;
import javax.tools.ToolProvider;

/** The rules of the language that a compiler's tree of the class shows. */
public final class RulesTest {
    private static final Path SOURCE = Path.of("src/main/java/ShakenBread.java");
    /** What the class needs of the library that rule 4 leaves. */
    private static final Set<String> LIBRARY = Set.of("String.length", "String.charAt", "Integer.bitCount", "Math.min",
        "Math.max", "Arrays.fill", "System.arraycopy");
    private static final int MOST_CALLS = 8;
    private static final int MOST_LINES = 60;
    private static final int MOST_CLASSES = 12;
    private static final Check c = new Check();

    public static void main(String[] args) throws Exception {
        JavaCompiler compiler = ToolProvider.getSystemJavaCompiler();
        StandardJavaFileManager files = compiler.getStandardFileManager(null, null, null);
        JavacTask task = (JavacTask) compiler.getTask(null, files, null, List.of("-proc:none"), null,
            files.getJavaFileObjects(SOURCE));
        Iterable<? extends CompilationUnitTree> units = task.parse();
        task.analyze();
        Rules rules = new Rules(Trees.instance(task));
        for (CompilationUnitTree unit : units) {
            c.due("no package", unit.getPackageName() == null, true);
            rules.scan(unit, null);
        }
        rules.close();
        c.close("RulesTest");
    }

    private static void no(String what) {
        c.due(what, true, false);
    }

    private static final class Rules extends TreePathScanner<Void, Void> {
        private final Trees trees;
        /** By method or constructor: which of our own it calls. */
        private final Map<Element, Set<Element>> calls = new LinkedHashMap<>();
        private int classes = 0;
        private Element method = null;

        Rules(Trees someTrees) {
            trees = someTrees;
        }

        private String place(Tree tree) {
            CompilationUnitTree unit = getCurrentPath().getCompilationUnit();
            return " in line " + unit.getLineMap().getLineNumber(trees.getSourcePositions().getStartPosition(unit, tree));
        }

        private TypeMirror typeOf(Tree tree) {
            return trees.getTypeMirror(new TreePath(getCurrentPath(), tree));
        }

        private boolean isText(Tree tree) {
            TypeMirror type = typeOf(tree);
            return type != null && type.toString().equals("java.lang.String");
        }

        private boolean isOurs(Element e) {
            while (e.getEnclosingElement() != null && e.getEnclosingElement().getKind() != ElementKind.PACKAGE) {
                e = e.getEnclosingElement();
            }
            return e.getSimpleName().contentEquals("ShakenBread");
        }

        // rules 1, 2, 11: classes

        @Override
        public Void visitClass(ClassTree tree, Void none) {
            classes++;
            TypeElement type = (TypeElement) trees.getElement(getCurrentPath());
            Set<Modifier> modifiers = type.getModifiers();
            boolean outer = type.getNestingKind() == NestingKind.TOP_LEVEL;
            c.due("no local or anonymous class" + place(tree), outer || type.getNestingKind() == NestingKind.MEMBER, true);
            c.due("final class" + place(tree), modifiers.contains(Modifier.FINAL), true);
            c.due("public or static class" + place(tree), modifiers.contains(outer ? Modifier.PUBLIC : Modifier.STATIC), true);
            c.due("extends nothing" + place(tree), tree.getExtendsClause() == null && tree.getImplementsClause().isEmpty(), true);
            c.due("of no kinds" + place(tree), tree.getTypeParameters().size(), 0);
            for (Tree member : tree.getMembers()) {
                c.due("no initialiser block" + place(member), member instanceof BlockTree, false);
            }
            return super.visitClass(tree, none);
        }

        // rules 1, 7, 8, 11: methods and their calls

        @Override
        public Void visitMethod(MethodTree tree, Void none) {
            method = trees.getElement(getCurrentPath());
            calls.putIfAbsent(method, new LinkedHashSet<>());
            CompilationUnitTree unit = getCurrentPath().getCompilationUnit();
            long start = unit.getLineMap().getLineNumber(trees.getSourcePositions().getStartPosition(unit, tree));
            long end = unit.getLineMap().getLineNumber(trees.getSourcePositions().getEndPosition(unit, tree));
            c.due("lines of " + method, end - start < MOST_LINES, true);
            c.due("parameters of " + method, tree.getParameters().size() <= 7, true);
            c.due("declares no exception " + method, tree.getThrows().size(), 0);
            super.visitMethod(tree, none);
            method = null;
            return null;
        }

        @Override
        public Void visitMethodInvocation(MethodInvocationTree tree, Void none) {
            Element called = trees.getElement(getCurrentPath());
            if (isOurs(called)) {
                note(called);
            } else if (called.getKind() == ElementKind.METHOD) {
                String name = called.getEnclosingElement().getSimpleName() + "." + called.getSimpleName();
                c.due(name + " of the library" + place(tree), LIBRARY.contains(name), true);
            }
            return super.visitMethodInvocation(tree, none);
        }

        private void note(Element called) {
            if (method != null) {
                calls.get(method).add(called);
            }
        }

        // rule 12: what is made

        @Override
        public Void visitNewClass(NewClassTree tree, Void none) {
            Element made = trees.getElement(getCurrentPath());
            c.due("makes our own" + place(tree), made != null && isOurs(made) && tree.getClassBody() == null, true);
            dueInConstructor(tree);
            if (made != null) {
                note(made);
            }
            return super.visitNewClass(tree, none);
        }

        @Override
        public Void visitNewArray(NewArrayTree tree, Void none) {
            dueInConstructor(tree);
            return super.visitNewArray(tree, none);
        }

        private void dueInConstructor(Tree tree) {
            c.due("made with the object" + place(tree), method == null || method.getKind() == ElementKind.CONSTRUCTOR, true);
        }

        // rules 3, 5: types and static fields

        @Override
        public Void visitVariable(VariableTree tree, Void none) {
            Element variable = trees.getElement(getCurrentPath());
            dueType(variable.asType(), tree);
            boolean inClass = variable.getKind() == ElementKind.FIELD;
            if (inClass && variable.getModifiers().contains(Modifier.STATIC)) {
                c.due("static is final" + place(tree), variable.getModifiers().contains(Modifier.FINAL), true);
                boolean row = variable.asType().toString().equals("int[]") && tree.getInitializer() instanceof NewArrayTree;
                boolean constant = ((javax.lang.model.element.VariableElement) variable).getConstantValue() != null;
                c.due("static is a constant" + place(tree), row || constant, true);
            }
            return super.visitVariable(tree, none);
        }

        private void dueType(TypeMirror type, Tree tree) {
            TypeMirror of = type.getKind() == TypeKind.ARRAY ? ((ArrayType) type).getComponentType() : type;
            boolean number = of.getKind() == TypeKind.INT || of.getKind() == TypeKind.BYTE || of.getKind() == TypeKind.BOOLEAN;
            boolean our = of.toString().startsWith("ShakenBread.");
            boolean text = type.toString().equals("java.lang.String");
            c.due("type " + type + place(tree), number || our || text, true);
        }

        // rules 2, 6, 9, 10: what isn't written

        @Override
        public Void visitBinary(BinaryTree tree, Void none) {
            dueNoText(tree.getLeftOperand());
            dueNoText(tree.getRightOperand());
            return super.visitBinary(tree, none);
        }

        @Override
        public Void visitCompoundAssignment(CompoundAssignmentTree tree, Void none) {
            dueNoText(tree.getVariable());
            return super.visitCompoundAssignment(tree, none);
        }

        /** Texts are neither joined nor compared by signs. */
        private void dueNoText(ExpressionTree tree) {
            c.due("no text beside a sign" + place(tree), isText(tree), false);
        }

        @Override
        public Void visitTypeCast(TypeCastTree tree, Void none) {
            c.due("casts numbers" + place(tree), typeOf(tree.getType()).getKind().isPrimitive(), true);
            return super.visitTypeCast(tree, none);
        }

        @Override
        public Void visitForLoop(ForLoopTree tree, Void none) {
            c.due("a loop's end" + place(tree), tree.getCondition() != null, true);
            return super.visitForLoop(tree, none);
        }

        @Override
        public Void visitEnhancedForLoop(EnhancedForLoopTree tree, Void none) {
            c.due("loops over an array" + place(tree), typeOf(tree.getExpression()).getKind() == TypeKind.ARRAY, true);
            return super.visitEnhancedForLoop(tree, none);
        }

        @Override
        public Void visitLambdaExpression(LambdaExpressionTree tree, Void none) {
            no("a lambda" + place(tree));
            return null;
        }

        @Override
        public Void visitMemberReference(MemberReferenceTree tree, Void none) {
            no("a method reference" + place(tree));
            return null;
        }

        @Override
        public Void visitThrow(ThrowTree tree, Void none) {
            no("a throw" + place(tree));
            return null;
        }

        @Override
        public Void visitTry(TryTree tree, Void none) {
            no("a try" + place(tree));
            return null;
        }

        @Override
        public Void visitAssert(AssertTree tree, Void none) {
            no("an assert" + place(tree));
            return null;
        }

        @Override
        public Void visitSynchronized(SynchronizedTree tree, Void none) {
            no("a synchronized" + place(tree));
            return null;
        }

        @Override
        public Void visitInstanceOf(InstanceOfTree tree, Void none) {
            no("an instanceof" + place(tree));
            return null;
        }

        // ---- how deep calls go ----

        void close() {
            c.due("classes: " + classes, classes <= MOST_CLASSES, true);
            for (Element one : calls.keySet()) {
                List<Element> longest = longest(one, new HashSet<>());
                c.due("calls go eight deep: " + longest, longest.size() <= MOST_CALLS, true);
            }
        }

        private List<Element> longest(Element from, Set<Element> open) {
            List<Element> best = new ArrayList<>();
            c.due("no recursion of " + from, open.add(from), true);
            if (open.size() <= calls.size()) {
                for (Element to : calls.getOrDefault(from, Set.of())) {
                    List<Element> one = open.contains(to) ? List.of(to) : longest(to, open);
                    c.due("no recursion of " + to, open.contains(to), false);
                    best = one.size() > best.size() ? one : best;
                }
            }
            open.remove(from);
            List<Element> all = new ArrayList<>(List.of(from));
            all.addAll(best);
            return all;
        }
    }
}
