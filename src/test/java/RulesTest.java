import com.sun.source.tree.BinaryTree;
import com.sun.source.tree.ClassTree;
import com.sun.source.tree.CompilationUnitTree;
import com.sun.source.tree.DoWhileLoopTree;
import com.sun.source.tree.ForLoopTree;
import com.sun.source.tree.IdentifierTree;
import com.sun.source.tree.MemberSelectTree;
import com.sun.source.tree.MethodInvocationTree;
import com.sun.source.tree.MethodTree;
import com.sun.source.tree.NewArrayTree;
import com.sun.source.tree.NewClassTree;
import com.sun.source.tree.Tree;
import com.sun.source.tree.Tree.Kind;
import com.sun.source.tree.VariableTree;
import com.sun.source.tree.WhileLoopTree;
import com.sun.source.util.JavacTask;
import com.sun.source.util.TreePath;
import com.sun.source.util.TreePathScanner;
import com.sun.source.util.Trees;
import java.nio.file.Files;
import java.nio.file.Path;
import java.util.EnumSet;
import java.util.LinkedHashMap;
import java.util.LinkedHashSet;
import java.util.List;
import java.util.Map;
import java.util.Set;
import javax.lang.model.element.Element;
import javax.lang.model.element.ElementKind;
import javax.lang.model.element.Modifier;
import javax.lang.model.type.TypeKind;
import javax.lang.model.type.TypeMirror;
import javax.tools.JavaCompiler;
import javax.tools.StandardJavaFileManager;
import javax.tools.ToolProvider;

/** LANGUAGE.md's rules, as far as they can be seen from the program's tree; a breach is told with the rule's number. */
public final class RulesTest {
    private static final Path PROGRAM = Path.of("src/main/java/AtticSweep.java");
    private static final int LINES = 60, DEPTH = 8, PARAMETERS = 7, CLASSES = 12, FIELDS = 20;

    private static final Checks CHECKS = new Checks();

    private static final Set<Kind> RULED_OUT = EnumSet.of(Kind.THROW, Kind.TRY, Kind.CATCH, Kind.SYNCHRONIZED,
        Kind.ASSERT, Kind.LAMBDA_EXPRESSION, Kind.MEMBER_REFERENCE, Kind.ANNOTATION, Kind.IMPORT, Kind.PACKAGE);

    /** What the program takes of Java's library; more of what rule 4 lists may be added here. */
    private static final Set<String> LIBRARY = Set.of("java.lang.Object.<init>", "java.lang.Math.max");

    /** The types of the program's fields beside its own classes; more of what rule 3 lists may be added here. */
    private static final Set<String> TYPES = Set.of("int", "boolean", "int[]", "boolean[]");

    private static final Map<Element, Set<Element>> CALLS = new LinkedHashMap<>();

    public static void main(String[] args) throws Exception {
        CHECKS.holds("4: no sign beyond 127", Files.readString(PROGRAM).chars().allMatch(sign -> sign < 128));
        JavaCompiler compiler = ToolProvider.getSystemJavaCompiler();
        try (StandardJavaFileManager files = compiler.getStandardFileManager(null, null, null)) {
            JavacTask task = (JavacTask) compiler.getTask(null, files, null, List.of("-proc:none"), null,
                files.getJavaFileObjects(PROGRAM));
            CompilationUnitTree unit = task.parse().iterator().next();
            task.analyze();
            Reader reader = new Reader(Trees.instance(task), unit);
            reader.scan(unit, null);
            CHECKS.holds("11: at most 12 classes, not " + reader.classes, reader.classes <= CLASSES);
        }
        for (Element method : CALLS.keySet()) {
            int depth = depthOf(method, new LinkedHashSet<>());
            CHECKS.holds("11: " + method + " goes eight deep at most, not " + depth, depth <= DEPTH);
        }
        CHECKS.finish();
    }

    /** How many calls stand open at once, this one too. */
    private static int depthOf(Element method, Set<Element> open) {
        boolean again = !open.add(method);
        CHECKS.holds("8: no call stands open twice, as " + method + " in " + open, !again);
        int deepest = 0;
        for (Element called : again ? Set.<Element>of() : CALLS.getOrDefault(method, Set.of())) {
            deepest = Math.max(deepest, depthOf(called, open));
        }
        if (!again) {
            open.remove(method);
        }
        return deepest + 1;
    }

    private static final class Reader extends TreePathScanner<Void, Void> {
        private final Trees trees;
        private final CompilationUnitTree unit;
        private int classes;
        private Element method;

        Reader(Trees trees, CompilationUnitTree unit) {
            this.trees = trees;
            this.unit = unit;
        }

        @Override
        public Void scan(Tree tree, Void none) {
            if (tree != null) {
                CHECKS.holds("1, 2, 6: no " + tree.getKind() + at(tree), !RULED_OUT.contains(tree.getKind()));
            }
            return super.scan(tree, none);
        }

        @Override
        public Void visitClass(ClassTree tree, Void none) {
            classes++;
            Element element = elementOf(tree);
            boolean inside = method == null && element.getEnclosingElement().getKind() == ElementKind.CLASS;
            if (classes > 1) {
                CHECKS.holds("2: inside and static" + at(tree), inside && is(element, Modifier.STATIC));
                CHECKS.holds("1: not open to all" + at(tree), !is(element, Modifier.PUBLIC, Modifier.PROTECTED));
            }
            int fields = 0;
            for (Tree member : tree.getMembers()) {
                CHECKS.holds("5: no initialiser block" + at(member), member.getKind() != Kind.BLOCK);
                if (member.getKind() == Kind.VARIABLE && !is(elementOf(member), Modifier.STATIC)) {
                    fields++;
                }
            }
            CHECKS.holds("11: at most 20 fields, not " + fields + at(tree), fields <= FIELDS);
            return super.visitClass(tree, none);
        }

        @Override
        public Void visitVariable(VariableTree tree, Void none) {
            Element element = elementOf(tree);
            if (element.getKind() == ElementKind.FIELD) {
                TypeMirror type = element.asType();
                boolean plain = TYPES.contains(type.toString()) || isOwn(type.toString());
                CHECKS.holds("3: of a plain type" + at(tree), plain);
                if (is(element, Modifier.STATIC)) {
                    CHECKS.holds("5: final" + at(tree), is(element, Modifier.FINAL));
                    CHECKS.holds("5: a constant of int" + at(tree), type.getKind() == TypeKind.INT);
                }
            }
            return super.visitVariable(tree, none);
        }

        @Override
        public Void visitMethod(MethodTree tree, Void none) {
            method = elementOf(tree);
            CALLS.putIfAbsent(method, new LinkedHashSet<>());
            long lines = lineOf(tree, true) - lineOf(tree, false) + 1;
            String name = tree.getName().toString();
            CHECKS.holds("6: no method of every object's" + at(tree),
                !Set.of("equals", "hashCode", "toString").contains(name));
            CHECKS.holds("11: at most 60 lines, not " + lines + at(tree), lines <= LINES);
            CHECKS.holds("11: at most seven parameters" + at(tree), tree.getParameters().size() <= PARAMETERS);
            CHECKS.holds("6: throws nothing" + at(tree), tree.getThrows().isEmpty());
            super.visitMethod(tree, none);
            method = null;
            return none;
        }

        @Override
        public Void visitMethodInvocation(MethodInvocationTree tree, Void none) {
            Element called = elementOf(tree);
            String of = called.getEnclosingElement().toString();
            if (isOwn(of)) {
                CALLS.computeIfAbsent(method, caller -> new LinkedHashSet<>()).add(called);
            } else {
                String name = of + "." + called.getSimpleName();
                CHECKS.holds("4: not of the library: " + name + at(tree), LIBRARY.contains(name));
            }
            return super.visitMethodInvocation(tree, none);
        }

        @Override
        public Void visitNewClass(NewClassTree tree, Void none) {
            CHECKS.holds("2: a class with a name" + at(tree), tree.getClassBody() == null);
            CHECKS.holds("12: made as the object is made" + at(tree), method == null);
            String type = elementOf(tree).getEnclosingElement().toString();
            CHECKS.holds("4: of the program's own: " + type + at(tree), isOwn(type));
            return super.visitNewClass(tree, none);
        }

        @Override
        public Void visitNewArray(NewArrayTree tree, Void none) {
            CHECKS.holds("12: made as the object is made" + at(tree), method == null);
            CHECKS.holds("3: of one dimension" + at(tree), tree.getDimensions().size() == 1);
            return super.visitNewArray(tree, none);
        }

        @Override
        public Void visitForLoop(ForLoopTree tree, Void none) {
            ends(tree, tree.getCondition());
            return super.visitForLoop(tree, none);
        }

        @Override
        public Void visitWhileLoop(WhileLoopTree tree, Void none) {
            ends(tree, tree.getCondition());
            return super.visitWhileLoop(tree, none);
        }

        @Override
        public Void visitDoWhileLoop(DoWhileLoopTree tree, Void none) {
            ends(tree, tree.getCondition());
            return super.visitDoWhileLoop(tree, none);
        }

        /** The end of a loop is a counter's bound in its head, alone or beside other ends. */
        private void ends(Tree loop, Tree condition) {
            boolean[] bound = {false};
            new TreePathScanner<Void, Void>() {
                @Override
                public Void visitBinary(BinaryTree tree, Void none) {
                    boolean less = EnumSet.of(Kind.LESS_THAN, Kind.LESS_THAN_EQUAL, Kind.GREATER_THAN,
                        Kind.GREATER_THAN_EQUAL).contains(tree.getKind());
                    bound[0] |= less;
                    CHECKS.holds("9: one end is enough" + at(loop), tree.getKind() != Kind.CONDITIONAL_OR);
                    return super.visitBinary(tree, none);
                }
            }.scan(new TreePath(getCurrentPath(), condition), null);
            CHECKS.holds("9: an end that can be seen" + at(loop), bound[0]);
        }

        @Override
        public Void visitBinary(BinaryTree tree, Void none) {
            boolean divides = tree.getKind() == Kind.DIVIDE || tree.getKind() == Kind.REMAINDER;
            CHECKS.holds("7: divides by a number that is written out" + at(tree),
                !divides || tree.getRightOperand().getKind() == Kind.INT_LITERAL);
            return super.visitBinary(tree, none);
        }

        @Override
        public Void visitIdentifier(IdentifierTree tree, Void none) {
            CHECKS.holds("6: no exception" + at(tree), !tree.getName().toString().endsWith("Exception"));
            return super.visitIdentifier(tree, none);
        }

        @Override
        public Void visitMemberSelect(MemberSelectTree tree, Void none) {
            CHECKS.holds("4, 13: no " + tree + at(tree), !tree.toString().startsWith("System."));
            return super.visitMemberSelect(tree, none);
        }

        private static boolean isOwn(String type) {
            return type.equals("AtticSweep") || type.startsWith("AtticSweep.");
        }

        private static boolean is(Element element, Modifier... one) {
            for (Modifier modifier : one) {
                if (element.getModifiers().contains(modifier)) {
                    return true;
                }
            }
            return false;
        }

        private Element elementOf(Tree tree) {
            return trees.getElement(trees.getPath(unit, tree));
        }

        private long lineOf(Tree tree, boolean end) {
            long sign = end ? trees.getSourcePositions().getEndPosition(unit, tree)
                : trees.getSourcePositions().getStartPosition(unit, tree);
            return unit.getLineMap().getLineNumber(Math.max(0, sign));
        }

        private String at(Tree tree) {
            return ", line " + lineOf(tree, false);
        }
    }
}
