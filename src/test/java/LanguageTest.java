import com.sun.source.tree.*;
import com.sun.source.util.JavacTask;
import com.sun.source.util.SourcePositions;
import com.sun.source.util.TreePath;
import com.sun.source.util.TreePathScanner;
import com.sun.source.util.Trees;
import java.io.File;
import java.io.IOException;
import java.util.HashMap;
import java.util.HashSet;
import java.util.List;
import java.util.Map;
import java.util.Set;
import java.util.regex.Pattern;
import javax.lang.model.element.Element;
import javax.lang.model.element.ElementKind;
import javax.lang.model.element.Modifier;
import javax.lang.model.element.TypeElement;
import javax.tools.JavaCompiler;
import javax.tools.StandardJavaFileManager;
import javax.tools.ToolProvider;

/**
 * LANGUAGE.md: those of its rules that can be told from the compiler's own tree of the program. Where a rule leaves more
 * than the program needs (own generic classes, objects made in a loop that has a bound), less is let through here.
 */
public final class LanguageTest {
    private static final File PROGRAM = new File("src/main/java/SlowTunes.java");
    private static final int MOST_LINES = 60;
    private static final int MOST_PARAMETERS = 7;
    private static final int MOST_CLASSES = 12;
    private static final int MOST_FIELDS = 20;
    private static final int MOST_DEPTH = 8;

    private static final Set<String> IMPORTS = Set.of("java.util.ArrayList", "java.util.Arrays", "java.util.List",
            "java.util.Iterator", "java.util.NoSuchElementException");
    private static final Set<String> EXCEPTIONS = Set.of("IllegalStateException", "IllegalArgumentException",
            "IndexOutOfBoundsException", "ArithmeticException", "UnsupportedOperationException",
            "NoSuchElementException", "RuntimeException");
    private static final Set<Tree.Kind> NO_KINDS = Set.of(Tree.Kind.LAMBDA_EXPRESSION, Tree.Kind.MEMBER_REFERENCE,
            Tree.Kind.SYNCHRONIZED, Tree.Kind.ASSERT);
    /** What rule 4 leaves of the library, each as its class and its name. */
    private static final Pattern LIBRARY = Pattern.compile("(String\\.(length|charAt|isEmpty|equals|indexOf|substring"
            + "|toCharArray|<init>)|StringBuilder\\.(append|charAt|setCharAt|setLength|deleteCharAt|reverse|length"
            + "|toString|<init>)|(ArrayList|List)\\.(add|get|set|remove|size|isEmpty|clear|of|<init>)"
            + "|(Math|Integer|Long)\\.(?!.*Exact)[a-zA-Z]+|System\\.arraycopy|Arrays\\.(copyOf|copyOfRange|fill)"
            + "|Array\\.clone|Object\\.<init>|Enum\\.<init>|[A-Z][A-Za-z]+Exception\\.<init>)");
    private static final Pattern TYPES = Pattern.compile("(int|long|short|byte|char|boolean|double|float)(\\[\\]){0,2}"
            + "|void|String|StringBuilder|(ArrayList|List)<[A-Z][A-Za-z]*>");
    private static final Set<String> STATIC_TYPES = Set.of("int", "long", "boolean", "char", "String", "int[]",
            "long[]", "char[]", "byte[]");
    private static final Checks CHECKS = new Checks("LanguageTest");

    private final CompilationUnitTree unit;
    private final Trees trees;
    private final SourcePositions places;
    private final Set<String> ownClasses = new HashSet<>();
    /** For each method of the program those that it calls. */
    private final Map<Element, Set<Element>> calls = new HashMap<>();

    public static void main(String[] args) throws IOException {
        JavaCompiler compiler = ToolProvider.getSystemJavaCompiler();
        try (StandardJavaFileManager files = compiler.getStandardFileManager(null, null, null)) {
            JavacTask task = (JavacTask) compiler.getTask(null, files, null, List.of("-proc:none"), null,
                    files.getJavaFileObjects(PROGRAM));
            CompilationUnitTree unit = task.parse().iterator().next();
            task.analyze();
            new LanguageTest(unit, Trees.instance(task)).hold();
        }
        CHECKS.finish();
    }

    private LanguageTest(CompilationUnitTree unit, Trees trees) {
        this.unit = unit;
        this.trees = trees;
        this.places = trees.getSourcePositions();
    }

    private void hold() {
        new Names().scan(unit, null);
        file();
        new Rules().scan(unit, null);
        CHECKS.sentence("LANGUAGE.md, rules 8 and 11", "calls that are no recursion go at most eight deep");
        for (Element method : calls.keySet()) {
            CHECKS.same("calls of " + method + " at most eight deep", depth(method, 1) <= MOST_DEPTH, true);
        }
    }

    private void file() {
        CHECKS.sentence("LANGUAGE.md, ahead of its rules", "without a package line");
        CHECKS.same("packages", unit.getPackage() == null, true);
        CHECKS.same("public classes of the file", unit.getTypeDecls().size(), 1);
        CHECKS.sentence("LANGUAGE.md, rule 4", "only what stands here");
        for (ImportTree line : unit.getImports()) {
            String name = line.getQualifiedIdentifier().toString();
            CHECKS.same("import of " + name, IMPORTS.contains(name) && !line.isStatic(), true);
        }
        CHECKS.sentence("LANGUAGE.md, rule 11", "the file has at most some twelve classes");
        CHECKS.same(ownClasses.size() + " classes", ownClasses.size() <= MOST_CLASSES, true);
    }

    /** The deepest calls that begin with this one; a method that calls itself is deeper than any number. */
    private int depth(Element method, int above) {
        int deepest = above;
        for (Element called : calls.getOrDefault(method, Set.of())) {
            deepest = Math.max(deepest, above > MOST_DEPTH ? above : depth(called, above + 1));
        }
        return deepest;
    }

    private String line(Tree tree) {
        return "line " + unit.getLineMap().getLineNumber(places.getStartPosition(unit, tree)) + ": ";
    }

    private int lines(Tree tree) {
        long first = unit.getLineMap().getLineNumber(places.getStartPosition(unit, tree));
        return (int) (unit.getLineMap().getLineNumber(places.getEndPosition(unit, tree)) - first + 1);
    }

    private final class Names extends TreePathScanner<Void, Void> {
        @Override
        public Void visitClass(ClassTree tree, Void none) {
            ownClasses.add(tree.getSimpleName().toString());
            return super.visitClass(tree, none);
        }
    }

    private final class Rules extends TreePathScanner<Void, Void> {
        private int loops = 0;

        @Override
        public Void scan(Tree tree, Void none) {
            if (tree != null && NO_KINDS.contains(tree.getKind())) {
                CHECKS.sentence("LANGUAGE.md, rules 2 and 6", "no lambda, no method reference, no synchronized, assert");
                CHECKS.same(line(tree) + tree.getKind(), true, false);
            }
            return super.scan(tree, none);
        }

        private Element element(Tree tree) {
            return trees.getElement(new TreePath(getCurrentPath(), tree));
        }

        private MethodTree methodAround() {
            for (TreePath path = getCurrentPath(); path != null; path = path.getParentPath()) {
                if (path.getLeaf() instanceof MethodTree) {
                    return (MethodTree) path.getLeaf();
                }
            }
            return null;
        }

        // ---- classes and their members

        @Override
        public Void visitClass(ClassTree tree, Void none) {
            Set<Modifier> marks = tree.getModifiers().getFlags();
            boolean isOutmost = getCurrentPath().getParentPath().getLeaf() == unit;
            CHECKS.sentence("LANGUAGE.md, rule 1", "classes inside it, which are private or package-visible and static");
            CHECKS.same(line(tree) + "public", marks.contains(Modifier.PUBLIC), isOutmost);
            CHECKS.same(line(tree) + "protected", marks.contains(Modifier.PROTECTED), false);
            boolean isEnum = tree.getKind() == Tree.Kind.ENUM;
            CHECKS.same(line(tree) + "static", isOutmost || isEnum || marks.contains(Modifier.STATIC), true);
            CHECKS.same(line(tree) + "inside a method", methodAround() != null, false);
            CHECKS.sentence("LANGUAGE.md, rules 5 and 11", "some twenty fields beside its constants; no static initialiser block");
            int fields = 0;
            for (Tree member : tree.getMembers()) {
                CHECKS.same(line(member) + "a static block", member instanceof BlockTree, false);
                fields += member instanceof VariableTree && !isStatic((VariableTree) member) ? 1 : 0;
            }
            CHECKS.same(line(tree) + fields + " fields", fields <= MOST_FIELDS, true);
            return super.visitClass(tree, none);
        }

        private boolean isStatic(VariableTree tree) {
            Element told = element(tree);
            return told.getModifiers().contains(Modifier.STATIC) || told.getKind() == ElementKind.ENUM_CONSTANT;
        }

        @Override
        public Void visitVariable(VariableTree tree, Void none) {
            Element told = element(tree);
            String type = String.valueOf(tree.getType());
            if (told.getKind() == ElementKind.FIELD && isStatic(tree)) {
                CHECKS.sentence("LANGUAGE.md, rule 5", "Static fields are final");
                CHECKS.same(line(tree) + "final", told.getModifiers().contains(Modifier.FINAL), true);
                boolean keepsValues = String.valueOf(tree.getInitializer()).endsWith(".values()");
                CHECKS.same(line(tree) + "of " + type, STATIC_TYPES.contains(type) || keepsValues, true);
            }
            if (told.getKind() != ElementKind.ENUM_CONSTANT) {
                isType(tree, type);
            }
            return super.visitVariable(tree, none);
        }

        private void isType(Tree tree, String type) {
            String single = type.endsWith("[]") ? type.substring(0, type.length() - 2) : type;
            CHECKS.sentence("LANGUAGE.md, rule 3", "Types");
            CHECKS.same(line(tree) + type, TYPES.matcher(type).matches() || ownClasses.contains(single), true);
        }

        @Override
        public Void visitMethod(MethodTree tree, Void none) {
            String name = tree.getName().toString();
            calls.putIfAbsent(element(tree), new HashSet<>());
            CHECKS.sentence("LANGUAGE.md, rule 11", "at most seven parameters; some sixty lines");
            CHECKS.same(line(tree) + name + ", its parameters", tree.getParameters().size() <= MOST_PARAMETERS, true);
            CHECKS.same(line(tree) + name + ", its lines", lines(tree) <= MOST_LINES, true);
            CHECKS.sentence("LANGUAGE.md, rule 6", "No synchronized");
            boolean isSynchronized = tree.getModifiers().getFlags().contains(Modifier.SYNCHRONIZED);
            CHECKS.same(line(tree) + name, isSynchronized, false);
            CHECKS.sentence("LANGUAGE.md, rule 6", "No equals, hashCode or toString of your own objects");
            CHECKS.same(line(tree) + name, Set.of("equals", "hashCode", "toString").contains(name), false);
            if (tree.getReturnType() != null) {
                isType(tree, tree.getReturnType().toString());
            }
            return super.visitMethod(tree, none);
        }

        // ---- what is called and made

        @Override
        public Void visitMethodInvocation(MethodInvocationTree tree, Void none) {
            Element called = element(tree.getMethodSelect());
            if (called.getSimpleName().contentEquals("values")) {
                CHECKS.sentence("LANGUAGE.md, rules 5 and 12", "values() kept once in a private static final array");
                CHECKS.same(line(tree) + "values() in a method", methodAround() != null, false);
            } else {
                isAllowed(tree, called);
            }
            return super.visitMethodInvocation(tree, none);
        }

        private void isAllowed(Tree tree, Element called) {
            TypeElement owner = (TypeElement) called.getEnclosingElement();
            boolean isOwn = ownClasses.contains(owner.getSimpleName().toString());
            String name = owner.getSimpleName() + "." + called.getSimpleName();
            if (isOwn && methodAround() != null) {
                calls.computeIfAbsent(element(methodAround()), made -> new HashSet<>()).add(called);
            }
            CHECKS.sentence("LANGUAGE.md, rule 4", "only what stands here");
            CHECKS.same(line(tree) + name, isOwn || LIBRARY.matcher(name).matches(), true);
        }

        @Override
        public Void visitNewClass(NewClassTree tree, Void none) {
            isAllowed(tree, element(tree));
            CHECKS.sentence("LANGUAGE.md, rule 12", "An object may be made by any method, and none in a loop without a bound");
            CHECKS.same(line(tree) + "an object made in a loop", loops > 0, false);
            return super.visitNewClass(tree, none);
        }

        @Override
        public Void visitNewArray(NewArrayTree tree, Void none) {
            CHECKS.sentence("LANGUAGE.md, rule 12", "An object may be made by any method, and none in a loop without a bound");
            CHECKS.same(line(tree) + "an array made in a loop", loops > 0, false);
            return super.visitNewArray(tree, none);
        }

        // ---- exceptions

        @Override
        public Void visitThrow(ThrowTree tree, Void none) {
            CHECKS.sentence("LANGUAGE.md, rule 6", "throw new E() or throw new E(\"a written text\")");
            boolean isNew = tree.getExpression() instanceof NewClassTree;
            CHECKS.same(line(tree) + "throw new", isNew, true);
            if (isNew) {
                NewClassTree made = (NewClassTree) tree.getExpression();
                CHECKS.same(line(tree) + made, EXCEPTIONS.contains(made.getIdentifier().toString()), true);
                boolean isPlain = made.getArguments().size() <= 1;
                for (ExpressionTree text : made.getArguments()) {
                    isPlain = isPlain && text.getKind() == Tree.Kind.STRING_LITERAL;
                }
                CHECKS.same(line(tree) + "its text", isPlain, true);
            }
            CHECKS.same(line(tree) + "in a constructor", methodAround().getReturnType() == null, false);
            return super.visitThrow(tree, none);
        }

        @Override
        public Void visitTry(TryTree tree, Void none) {
            CHECKS.sentence("LANGUAGE.md, rule 6", "No finally, no try with resources");
            CHECKS.same(line(tree) + "finally", tree.getFinallyBlock() == null, true);
            CHECKS.same(line(tree) + "resources", tree.getResources().isEmpty(), true);
            for (CatchTree caught : tree.getCatches()) {
                String type = caught.getParameter().getType().toString();
                CHECKS.same(line(caught) + "catch of " + type, EXCEPTIONS.contains(type), true);
            }
            return super.visitTry(tree, none);
        }

        // ---- texts, loops and divisors

        @Override
        public Void visitBinary(BinaryTree tree, Void none) {
            String type = String.valueOf(trees.getTypeMirror(getCurrentPath()));
            CHECKS.sentence("LANGUAGE.md, rule 10", "joining texts by StringBuilder (not by +)");
            CHECKS.same(line(tree) + "a text joined by +", type.equals("java.lang.String"), false);
            return super.visitBinary(tree, none);
        }

        @Override
        public Void visitCompoundAssignment(CompoundAssignmentTree tree, Void none) {
            String type = String.valueOf(trees.getTypeMirror(getCurrentPath()));
            CHECKS.sentence("LANGUAGE.md, rule 10", "joining texts by StringBuilder (not by +)");
            CHECKS.same(line(tree) + "a text joined by +=", type.equals("java.lang.String"), false);
            return super.visitCompoundAssignment(tree, none);
        }

        @Override
        public Void visitForLoop(ForLoopTree tree, Void none) {
            CHECKS.sentence("LANGUAGE.md, rule 9", "Every loop has an end that can be seen from its own lines");
            CHECKS.same(line(tree) + "a condition", tree.getCondition() != null, true);
            return inLoop(() -> super.visitForLoop(tree, none));
        }

        @Override
        public Void visitWhileLoop(WhileLoopTree tree, Void none) {
            CHECKS.sentence("LANGUAGE.md, rule 9", "Every loop has an end that can be seen from its own lines");
            CHECKS.same(line(tree) + "no end", tree.getCondition().toString().equals("(true)"), false);
            return inLoop(() -> super.visitWhileLoop(tree, none));
        }

        @Override
        public Void visitDoWhileLoop(DoWhileLoopTree tree, Void none) {
            return inLoop(() -> super.visitDoWhileLoop(tree, none));
        }

        @Override
        public Void visitEnhancedForLoop(EnhancedForLoopTree tree, Void none) {
            return inLoop(() -> super.visitEnhancedForLoop(tree, none));
        }

        private Void inLoop(Runnable inside) {
            loops++;
            inside.run();
            loops--;
            return null;
        }
    }
}
