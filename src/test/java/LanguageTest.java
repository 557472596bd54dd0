import com.sun.source.tree.AssertTree;
import com.sun.source.tree.AssignmentTree;
import com.sun.source.tree.BinaryTree;
import com.sun.source.tree.BlockTree;
import com.sun.source.tree.ClassTree;
import com.sun.source.tree.CompilationUnitTree;
import com.sun.source.tree.CompoundAssignmentTree;
import com.sun.source.tree.ExpressionTree;
import com.sun.source.tree.ForLoopTree;
import com.sun.source.tree.ImportTree;
import com.sun.source.tree.InstanceOfTree;
import com.sun.source.tree.LambdaExpressionTree;
import com.sun.source.tree.MemberReferenceTree;
import com.sun.source.tree.MethodInvocationTree;
import com.sun.source.tree.MethodTree;
import com.sun.source.tree.NewArrayTree;
import com.sun.source.tree.NewClassTree;
import com.sun.source.tree.SynchronizedTree;
import com.sun.source.tree.ThrowTree;
import com.sun.source.tree.Tree;
import com.sun.source.tree.TryTree;
import com.sun.source.tree.VariableTree;
import com.sun.source.tree.WhileLoopTree;
import com.sun.source.util.JavacTask;
import com.sun.source.util.TreePath;
import com.sun.source.util.TreePathScanner;
import com.sun.source.util.Trees;
import java.io.File;
import java.io.IOException;
import java.nio.charset.StandardCharsets;
import java.nio.file.Files;
import java.util.ArrayList;
import java.util.HashMap;
import java.util.List;
import java.util.Map;
import java.util.Set;
import java.util.TreeMap;
import java.util.TreeSet;
import javax.lang.model.element.Element;
import javax.lang.model.element.ExecutableElement;
import javax.lang.model.element.Modifier;
import javax.lang.model.element.TypeElement;
import javax.lang.model.element.VariableElement;
import javax.lang.model.type.TypeMirror;
import javax.tools.JavaCompiler;
import javax.tools.StandardJavaFileManager;
import javax.tools.ToolProvider;

/**
 * The rules of ../shared/LANGUAGE.md that can be seen in the source of WormHeap, as javac reads it. Where the class keeps
 * to less than a rule allows (no lists, no texts but constants, no object made by a call), the test asks for that.
 */
final class LanguageTest {
    private static final String SOURCE = "src/main/java/WormHeap.java";
    private static final Check check = new Check("LanguageTest");
    private static final Set<String> LIBRARY = Set.of("java.lang.String.length()", "java.lang.String.indexOf(int)",
        "java.lang.System.arraycopy(java.lang.Object,int,java.lang.Object,int,int)", "java.lang.Math.abs(int)",
        "java.lang.Math.max(int,int)", "java.lang.Math.min(int,int)", "java.lang.Integer.bitCount(int)",
        "java.util.Arrays.fill(int[],int)", "java.util.Arrays.fill(long[],long)", "java.lang.Object.Object()");
    private static final Set<String> TYPES = Set.of("int", "long", "char", "byte", "boolean", "int[]", "long[]", "char[]",
        "java.lang.String", "void");
    private static final int PARAMETERS = 7, LINES = 60, CALLS = 8, CLASSES = 12, FIELDS = 20;

    /** Of another source, if one is named: so it can be seen what the test finds. */
    public static void main(String[] args) throws IOException {
        File source = new File(args.length > 0 ? args[0] : SOURCE);
        JavaCompiler compiler = ToolProvider.getSystemJavaCompiler();
        try (StandardJavaFileManager files = compiler.getStandardFileManager(null, null, StandardCharsets.UTF_8)) {
            JavacTask task = (JavacTask) compiler.getTask(null, files, null, List.of("-proc:none"), null,
                files.getJavaFileObjects(source));
            List<CompilationUnitTree> units = new ArrayList<>();
            task.parse().forEach(units::add);
            task.analyze();
            check.due("one file", 1, units.size());
            for (CompilationUnitTree unit : units) {
                Reader reader = new Reader(Trees.instance(task), unit);
                reader.scan(unit, null);
                reader.judge();
            }
        }
        signs(source);
        check.done();
    }

    /** Rule 4: constants, whose signs are 1 to 127. The source itself holds no others. */
    private static void signs(File source) throws IOException {
        byte[] bytes = Files.readAllBytes(source.toPath());
        int other = 0;
        for (byte b : bytes) {
            other += b == '\n' || b >= ' ' && b < 127 ? 0 : 1;
        }
        check.due("4: signs that are none of 32 .. 126", 0, other);
    }

    /** Walks through the source; what is no rule's fault is not looked at. */
    private static final class Reader extends TreePathScanner<Void, Void> {
        private final Trees trees;
        private final CompilationUnitTree unit;
        private final Set<String> own = new TreeSet<>();
        private final Set<String> face = new TreeSet<>();
        private final List<String> privates = new ArrayList<>();
        private final Map<String, Set<String>> calls = new TreeMap<>();
        private final Map<String, Boolean> mayCallItself = new HashMap<>();
        private int classes;
        private String method = "";
        private boolean makes;

        Reader(Trees trees, CompilationUnitTree unit) {
            this.trees = trees;
            this.unit = unit;
            check.holds("no package", unit.getPackageName() == null);
            check.due("one class", 1, unit.getTypeDecls().size());
            for (Tree tree : unit.getTypeDecls()) {
                gather(new TreePath(new TreePath(unit), tree));
            }
        }

        private void gather(TreePath path) {
            own.add(trees.getElement(path).toString());
            for (Tree member : ((ClassTree) path.getLeaf()).getMembers()) {
                if (member instanceof ClassTree) {
                    gather(new TreePath(path, member));
                }
            }
        }

        private String at(Tree tree) {
            long line = unit.getLineMap().getLineNumber(trees.getSourcePositions().getStartPosition(unit, tree));
            return "line " + line + ": " + tree.toString().lines().findFirst().orElse("");
        }

        private long lines(Tree tree) {
            long from = trees.getSourcePositions().getStartPosition(unit, tree);
            long to = trees.getSourcePositions().getEndPosition(unit, tree);
            return unit.getLineMap().getLineNumber(to) - unit.getLineMap().getLineNumber(from) + 1;
        }

        private Element element() {
            return trees.getElement(getCurrentPath());
        }

        private String type(Tree tree) {
            TypeMirror type = trees.getTypeMirror(TreePath.getPath(unit, tree));
            return type == null ? "none" : type.toString();
        }

        private void never(String rule, Tree tree) {
            check.holds(rule + ", " + at(tree), false);
        }

        @Override
        public Void visitImport(ImportTree tree, Void none) {
            check.holds("4: the library, " + at(tree),
                !tree.isStatic() && tree.getQualifiedIdentifier().toString().equals("java.util.Arrays"));
            return null;
        }

        @Override
        public Void visitClass(ClassTree tree, Void none) {
            classes++;
            boolean outer = element().toString().equals("WormHeap");
            Set<Modifier> modifiers = tree.getModifiers().getFlags();
            check.holds("1, 2: " + at(tree), outer ? modifiers.equals(Set.of(Modifier.PUBLIC, Modifier.FINAL))
                : modifiers.contains(Modifier.STATIC) && !modifiers.contains(Modifier.PUBLIC)
                    && !modifiers.contains(Modifier.PROTECTED));
            check.holds("2: of a name " + at(tree), tree.getSimpleName().length() > 0);
            check.holds("2: no local class " + at(tree), outer || method.isEmpty());
            check.holds("11: nothing above " + at(tree), tree.getExtendsClause() == null && tree.getImplementsClause().isEmpty());
            int fields = 0;
            for (Tree member : tree.getMembers()) {
                check.holds("5: no block " + at(member), !(member instanceof BlockTree));
                if (member instanceof VariableTree field) {
                    fields += field.getModifiers().getFlags().contains(Modifier.STATIC) ? 0 : 1;
                }
            }
            check.holds("11: fields of " + at(tree), fields <= FIELDS);
            return super.visitClass(tree, none);
        }

        @Override
        public Void visitMethod(MethodTree tree, Void none) {
            ExecutableElement made = (ExecutableElement) element();
            String name = nameOf(made);
            Set<Modifier> modifiers = made.getModifiers();
            boolean outer = made.getEnclosingElement().toString().equals("WormHeap");
            boolean seen = modifiers.contains(Modifier.PUBLIC);
            boolean inside = modifiers.contains(Modifier.PRIVATE);
            check.holds("1: private or of the face, " + name, outer ? seen || inside : !seen);
            check.holds("11: parameters of " + name, tree.getParameters().size() <= PARAMETERS);
            check.holds("11: lines of " + name, lines(tree) <= LINES);
            check.holds("6: throws nothing, " + name, tree.getThrows().isEmpty());
            check.holds("2: with a body, " + name, tree.getBody() != null);
            check.holds("6: none of Object's, " + name, !Set.of("equals", "hashCode", "toString").contains(tree.getName().toString()));
            if (outer && seen) {
                face.add(tree.getName().toString());
            }
            if (inside && tree.getReturnType() != null) {
                privates.add(tree.getName().toString());
            }
            calls.computeIfAbsent(name, n -> new TreeSet<>());
            mayCallItself.put(name, inside);
            method = name;
            makes = tree.getReturnType() == null;
            super.visitMethod(tree, none);
            method = "";
            return null;
        }

        private static String nameOf(ExecutableElement made) {
            return made.getEnclosingElement() + "." + (made.getSimpleName().contentEquals("<init>")
                ? made : made.toString());
        }

        @Override
        public Void visitVariable(VariableTree tree, Void none) {
            VariableElement made = (VariableElement) element();
            String type = made.asType().toString();
            String item = type.endsWith("[]") ? type.substring(0, type.length() - 2) : type;
            check.holds("3: a type of the language, " + at(tree), TYPES.contains(type) || own.contains(item));
            Set<Modifier> modifiers = made.getModifiers();
            if (made.getKind().isField() && modifiers.contains(Modifier.STATIC)) {
                check.holds("5: a constant, " + at(tree), modifiers.contains(Modifier.FINAL) && made.getConstantValue() != null);
            } else if (made.getKind().isField()) {
                boolean outer = made.getEnclosingElement().toString().equals("WormHeap");
                check.holds("1: private, " + at(tree), !outer || modifiers.contains(Modifier.PRIVATE));
            }
            return super.visitVariable(tree, none);
        }

        @Override
        public Void visitMethodInvocation(MethodInvocationTree tree, Void none) {
            called((ExecutableElement) trees.getElement(getCurrentPath()), tree);
            return super.visitMethodInvocation(tree, none);
        }

        private void called(ExecutableElement other, Tree tree) {
            String owner = ((TypeElement) other.getEnclosingElement()).toString();
            String name = owner.startsWith("java.") ? owner + "." + other.toString() : nameOf(other);
            if (owner.equals("java.lang.Object")) {
                name = "java.lang.Object." + other;
            }
            if (own.contains(owner)) {
                calls.computeIfAbsent(method, n -> new TreeSet<>()).add(name);
            } else {
                check.holds("4: the library, " + at(tree) + " is " + name, LIBRARY.contains(name));
            }
        }

        @Override
        public Void visitNewClass(NewClassTree tree, Void none) {
            check.holds("2: no body, " + at(tree), tree.getClassBody() == null);
            check.holds("4: a class of its own, " + at(tree), own.contains(type(tree)));
            check.holds("12: made with the object, " + at(tree), method.isEmpty() || makes);
            return super.visitNewClass(tree, none);
        }

        @Override
        public Void visitNewArray(NewArrayTree tree, Void none) {
            check.holds("12: made with the object, " + at(tree), method.isEmpty() || makes);
            check.due("3: of one dimension, " + at(tree), 1, tree.getDimensions().size());
            return super.visitNewArray(tree, none);
        }

        @Override
        public Void visitBinary(BinaryTree tree, Void none) {
            boolean texts = type(tree.getLeftOperand()).equals("java.lang.String")
                || type(tree.getRightOperand()).equals("java.lang.String");
            check.holds("6, 10: texts are neither joined nor compared so, " + at(tree), !texts);
            return super.visitBinary(tree, none);
        }

        @Override
        public Void visitCompoundAssignment(CompoundAssignmentTree tree, Void none) {
            check.holds("10: no text is joined, " + at(tree), !type(tree.getVariable()).equals("java.lang.String"));
            return super.visitCompoundAssignment(tree, none);
        }

        @Override
        public Void visitAssignment(AssignmentTree tree, Void none) {
            ExpressionTree variable = tree.getVariable();
            check.holds("3: no text is kept by a call, " + at(tree), !type(variable).equals("java.lang.String"));
            return super.visitAssignment(tree, none);
        }

        @Override
        public Void visitWhileLoop(WhileLoopTree tree, Void none) {
            String condition = tree.getCondition().toString();
            check.holds("9: against a bound, " + at(tree), condition.contains(" < "));
            return super.visitWhileLoop(tree, none);
        }

        @Override
        public Void visitForLoop(ForLoopTree tree, Void none) {
            check.holds("9: a counter against a bound, " + at(tree), tree.getCondition() != null && !tree.getUpdate().isEmpty());
            return super.visitForLoop(tree, none);
        }

        @Override
        public Void visitThrow(ThrowTree tree, Void none) {
            never("6: no throw", tree);
            return null;
        }

        @Override
        public Void visitTry(TryTree tree, Void none) {
            never("6: no try", tree);
            return null;
        }

        @Override
        public Void visitSynchronized(SynchronizedTree tree, Void none) {
            never("6: no synchronized", tree);
            return null;
        }

        @Override
        public Void visitAssert(AssertTree tree, Void none) {
            never("6: no assert", tree);
            return null;
        }

        @Override
        public Void visitInstanceOf(InstanceOfTree tree, Void none) {
            never("6: no instanceof", tree);
            return null;
        }

        @Override
        public Void visitLambdaExpression(LambdaExpressionTree tree, Void none) {
            never("2: no lambda", tree);
            return null;
        }

        @Override
        public Void visitMemberReference(MemberReferenceTree tree, Void none) {
            never("2: no method reference", tree);
            return null;
        }

        /** What is seen of the whole alone. */
        void judge() {
            check.holds("11: classes " + classes, classes <= CLASSES);
            for (String name : privates) {
                check.holds("1: a private method of a public one's name, " + name, !face.contains(name));
            }
            for (String name : calls.keySet()) {
                boolean recursive = reaches(name, name, new TreeSet<>());
                check.holds("8: calls itself and is not private, " + name, !recursive || mayCallItself.getOrDefault(name, false));
                int deep = deepest(name, new ArrayList<>());
                check.holds("11: " + deep + " calls deep, " + name, deep <= CALLS);
            }
        }

        private boolean reaches(String from, String to, Set<String> been) {
            for (String next : calls.getOrDefault(from, Set.of())) {
                if (next.equals(to) || been.add(next) && reaches(next, to, been)) {
                    return true;
                }
            }
            return false;
        }

        /** The longest row of calls from a method on, none of them twice. */
        private int deepest(String from, List<String> open) {
            open.add(from);
            int deepest = 0;
            for (String next : calls.getOrDefault(from, Set.of())) {
                if (!open.contains(next)) {
                    deepest = Math.max(deepest, deepest(next, open));
                }
            }
            open.remove(from);
            return 1 + deepest;
        }
    }
}
