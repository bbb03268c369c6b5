import com.sun.source.tree.*;
import com.sun.source.util.*;
import java.io.File;
import java.util.ArrayList;
import java.util.HashMap;
import java.util.HashSet;
import java.util.LinkedHashMap;
import java.util.List;
import java.util.Map;
import java.util.Set;
import javax.lang.model.element.Element;
import javax.lang.model.element.ElementKind;
import javax.lang.model.element.ExecutableElement;
import javax.lang.model.element.Modifier;
import javax.tools.JavaCompiler;
import javax.tools.StandardJavaFileManager;
import javax.tools.ToolProvider;

/** Whether the class keeps to LANGUAGE.md, so far as its text shows: each row names the rule. */
public final class LanguageTest {
    private static final String FILE = "src/main/java/SoManyStairs.java";
    private static final Set<String> LIBRARY = Set.of("String.length", "String.charAt", "String.indexOf", "Math.max", "Math.min",
            "Integer.bitCount", "System.arraycopy");
    private static final int MOST_LINES = 60;
    private static final int MOST_PARAMETERS = 7;
    private static final int MOST_DEEP = 8;
    private static final int MOST_CLASSES = 12;
    private static final int MOST_FIELDS = 20;

    private static int wrong = 0;
    private static int seen = 0;

    public static void main(String[] args) throws Exception {
        JavaCompiler compiler = ToolProvider.getSystemJavaCompiler();
        try (StandardJavaFileManager files = compiler.getStandardFileManager(null, null, null)) {
            JavacTask task = (JavacTask) compiler.getTask(null, files, null, null, null,
                    files.getJavaFileObjects(new File(FILE)));
            CompilationUnitTree unit = task.parse().iterator().next();
            task.analyze();
            new LanguageTest(unit, Trees.instance(task)).look();
        }
        System.out.println("LanguageTest: " + seen + " methods looked at, " + wrong + " faults");
        if (wrong != 0) {
            System.exit(1);
        }
    }

    private final CompilationUnitTree unit;
    private final Trees trees;
    private final Map<ExecutableElement, Set<ExecutableElement>> callsOf = new LinkedHashMap<>();
    private final List<ClassTree> classes = new ArrayList<>();
    private final Map<ExecutableElement, MethodTree> methods = new LinkedHashMap<>();

    private LanguageTest(CompilationUnitTree unit, Trees trees) {
        this.unit = unit;
        this.trees = trees;
    }

    private void fault(String rule, Tree where) {
        wrong++;
        long line = unit.getLineMap().getLineNumber(trees.getSourcePositions().getStartPosition(unit, where));
        System.out.println("rule " + rule + ": line " + line + ": " + where.toString().lines().findFirst().orElse(""));
    }

    private void check(boolean is, String rule, Tree where) {
        if (!is) {
            fault(rule, where);
        }
    }

    private int lineOf(long position) {
        return (int) unit.getLineMap().getLineNumber(position);
    }

    private void look() {
        check(unit.getImports().isEmpty(), "no import", unit);
        check(unit.getPackageName() == null, "no package", unit);
        check(unit.getTypeDecls().size() == 1, "one class", unit);
        new Looker().scan(unit, null);
        check(classes.size() <= MOST_CLASSES, "11: some twelve classes, not " + classes.size(), unit);
        lookAtNames();
        lookAtDepth();
        seen = methods.size();
    }

    private void lookAtNames() {
        Set<String> face = new HashSet<>();
        for (ExecutableElement m : methods.keySet()) {
            if (m.getModifiers().contains(Modifier.PUBLIC)) {
                face.add(m.getSimpleName().toString());
            }
        }
        for (Map.Entry<ExecutableElement, MethodTree> e : methods.entrySet()) {
            ExecutableElement m = e.getKey();
            boolean other = !m.getModifiers().contains(Modifier.PUBLIC) && m.getKind() == ElementKind.METHOD;
            check(!other || !face.contains(m.getSimpleName().toString()), "1: the name of a public one", e.getValue());
        }
    }

    // A method that can come back to itself is recursion; others count one level each.
    private void lookAtDepth() {
        Map<ExecutableElement, Integer> known = new HashMap<>();
        for (ExecutableElement m : callsOf.keySet()) {
            int deep = depth(m, known);
            check(deep <= MOST_DEEP, "11: calls " + deep + " deep", methods.get(m));
        }
    }

    private int depth(ExecutableElement m, Map<ExecutableElement, Integer> known) {
        Integer before = known.get(m);
        if (before != null) {
            return before;
        }
        Set<ExecutableElement> circle = new HashSet<>();
        for (ExecutableElement other : reachable(m)) {
            if (reachable(other).contains(m)) {
                circle.add(other);
            }
        }
        int below = 0;
        Set<ExecutableElement> group = new HashSet<>(circle);
        group.add(m);
        for (ExecutableElement one : group) {
            for (ExecutableElement next : callsOf.getOrDefault(one, Set.of())) {
                if (!group.contains(next)) {
                    below = Math.max(below, depth(next, known));
                }
            }
        }
        int deep = below + (circle.contains(m) ? 0 : 1);
        known.put(m, deep);
        return deep;
    }

    private Set<ExecutableElement> reachable(ExecutableElement from) {
        Set<ExecutableElement> all = new HashSet<>();
        List<ExecutableElement> open = new ArrayList<>(callsOf.getOrDefault(from, Set.of()));
        while (!open.isEmpty()) {
            ExecutableElement next = open.remove(open.size() - 1);
            if (all.add(next)) {
                open.addAll(callsOf.getOrDefault(next, Set.of()));
            }
        }
        return all;
    }

    private final class Looker extends TreePathScanner<Void, Void> {
        private ExecutableElement inside = null;

        @Override
        public Void visitClass(ClassTree tree, Void nothing) {
            classes.add(tree);
            Set<Modifier> flags = tree.getModifiers().getFlags();
            boolean outer = getCurrentPath().getParentPath().getLeaf() instanceof CompilationUnitTree;
            check(flags.contains(Modifier.FINAL), "1: final", tree);
            check(outer ? flags.contains(Modifier.PUBLIC) : flags.contains(Modifier.STATIC), "2: static", tree);
            check(outer || !flags.contains(Modifier.PUBLIC) && !flags.contains(Modifier.PROTECTED), "1: hidden", tree);
            int fields = 0;
            for (Tree member : tree.getMembers()) {
                check(!(member instanceof BlockTree), "5: no initialiser block", member);
                if (member instanceof VariableTree field) {
                    fields += lookAtField(field, outer);
                }
            }
            check(fields <= MOST_FIELDS, "11: some twenty fields, not " + fields, tree);
            return super.visitClass(tree, nothing);
        }

        private int lookAtField(VariableTree field, boolean outer) {
            Set<Modifier> flags = field.getModifiers().getFlags();
            if (flags.contains(Modifier.STATIC)) {
                check(flags.contains(Modifier.FINAL), "5: final", field);
                boolean none = field.getName().contentEquals("NONE");
                check(flags.contains(none ? Modifier.PUBLIC : Modifier.PRIVATE), "1: constants", field);
                check(Set.of("int", "String").contains(field.getType().toString()), "5: constants", field);
                return 0;
            }
            check(!outer || flags.contains(Modifier.PRIVATE), "1: fields", field);
            return 1;
        }

        @Override
        public Void visitMethod(MethodTree tree, Void nothing) {
            ExecutableElement before = inside;
            inside = (ExecutableElement) trees.getElement(getCurrentPath());
            methods.put(inside, tree);
            callsOf.computeIfAbsent(inside, m -> new HashSet<>());
            check(tree.getParameters().size() <= MOST_PARAMETERS, "11: parameters", tree);
            long from = trees.getSourcePositions().getStartPosition(unit, tree);
            long to = trees.getSourcePositions().getEndPosition(unit, tree);
            check(to < 0 || lineOf(to) - lineOf(from) < MOST_LINES, "11: lines", tree);
            boolean face = inside.getEnclosingElement().getModifiers().contains(Modifier.PUBLIC);
            Set<Modifier> flags = inside.getModifiers();
            check(!face || flags.contains(Modifier.PUBLIC) || flags.contains(Modifier.PRIVATE), "1: members", tree);
            check(Set.of("equals", "hashCode", "toString").stream().noneMatch(tree.getName()::contentEquals),
                    "6: equals and its like", tree);
            super.visitMethod(tree, nothing);
            inside = before;
            return null;
        }

        @Override
        public Void visitMethodInvocation(MethodInvocationTree tree, Void nothing) {
            Element called = trees.getElement(new TreePath(getCurrentPath(), tree.getMethodSelect()));
            if (called instanceof ExecutableElement method) {
                note(method, tree);
            }
            return super.visitMethodInvocation(tree, nothing);
        }

        @Override
        public Void visitNewClass(NewClassTree tree, Void nothing) {
            check(tree.getClassBody() == null, "2: no anonymous class", tree);
            check(inside == null || inside.getKind() == ElementKind.CONSTRUCTOR, "12: objects are made by constructors alone", tree);
            if (trees.getElement(getCurrentPath()) instanceof ExecutableElement made) {
                note(made, tree);
            }
            return super.visitNewClass(tree, nothing);
        }

        private void note(ExecutableElement method, Tree tree) {
            String owner = method.getEnclosingElement().getSimpleName().toString();
            if (method.getEnclosingElement().toString().startsWith("java.")) {
                boolean base = owner.equals("Object") && method.getKind() == ElementKind.CONSTRUCTOR;
                check(base || LIBRARY.contains(owner + "." + method.getSimpleName()), "4: the library", tree);
            } else if (inside != null) {
                callsOf.get(inside).add(method);
            }
        }

        @Override
        public Void visitIdentifier(IdentifierTree tree, Void nothing) {
            Element element = trees.getElement(getCurrentPath());
            boolean boxed = element != null && element.getKind() == ElementKind.CLASS
                    && !Set.of("String", "Math", "Integer", "System", "Object").contains(tree.getName().toString())
                    && element.toString().startsWith("java.");
            check(!boxed, "3: types", tree);
            return super.visitIdentifier(tree, nothing);
        }

        @Override
        public Void visitMemberSelect(MemberSelectTree tree, Void nothing) {
            boolean constant = tree.getIdentifier().toString().startsWith("M")
                    && Set.of("Integer", "Long").contains(tree.getExpression().toString());
            check(!constant, "4: the library's functions alone", tree);
            return super.visitMemberSelect(tree, nothing);
        }

        @Override
        public Void visitBinary(BinaryTree tree, Void nothing) {
            boolean text = tree.getKind() == Tree.Kind.PLUS && (isText(tree.getLeftOperand()) || isText(tree.getRightOperand()));
            check(!text, "10: no joining of texts by +", tree);
            return super.visitBinary(tree, nothing);
        }

        private boolean isText(Tree tree) {
            return tree.getKind() == Tree.Kind.STRING_LITERAL
                    || String.valueOf(trees.getTypeMirror(new TreePath(getCurrentPath(), tree))).equals("java.lang.String");
        }

        @Override
        public Void visitWhileLoop(WhileLoopTree tree, Void nothing) {
            check(tree.getCondition().toString().matches("\\(.*<.*|\\(.*> 0.*"), "9: an end to be seen", tree);
            return super.visitWhileLoop(tree, nothing);
        }

        @Override
        public Void visitForLoop(ForLoopTree tree, Void nothing) {
            check(tree.getCondition() != null && !tree.getUpdate().isEmpty(), "9: an end to be seen", tree);
            return super.visitForLoop(tree, nothing);
        }

        @Override
        public Void visitThrow(ThrowTree tree, Void nothing) {
            fault("6: no throw", tree);
            return super.visitThrow(tree, nothing);
        }

        @Override
        public Void visitTry(TryTree tree, Void nothing) {
            fault("6: no try", tree);
            return super.visitTry(tree, nothing);
        }

        @Override
        public Void visitSynchronized(SynchronizedTree tree, Void nothing) {
            fault("6: no synchronized", tree);
            return super.visitSynchronized(tree, nothing);
        }

        @Override
        public Void visitAssert(AssertTree tree, Void nothing) {
            fault("6: no assert", tree);
            return super.visitAssert(tree, nothing);
        }

        @Override
        public Void visitLambdaExpression(LambdaExpressionTree tree, Void nothing) {
            fault("2: no lambda", tree);
            return super.visitLambdaExpression(tree, nothing);
        }

        @Override
        public Void visitMemberReference(MemberReferenceTree tree, Void nothing) {
            fault("2: no method reference", tree);
            return super.visitMemberReference(tree, nothing);
        }
    }
}
