import com.sun.source.tree.AssertTree;
import com.sun.source.tree.BinaryTree;
import com.sun.source.tree.BlockTree;
import com.sun.source.tree.ClassTree;
import com.sun.source.tree.CompilationUnitTree;
import com.sun.source.tree.ConditionalExpressionTree;
import com.sun.source.tree.DoWhileLoopTree;
import com.sun.source.tree.ForLoopTree;
import com.sun.source.tree.ImportTree;
import com.sun.source.tree.InstanceOfTree;
import com.sun.source.tree.LambdaExpressionTree;
import com.sun.source.tree.MemberReferenceTree;
import com.sun.source.tree.MethodInvocationTree;
import com.sun.source.tree.MethodTree;
import com.sun.source.tree.NewArrayTree;
import com.sun.source.tree.NewClassTree;
import com.sun.source.tree.SynchronizedTree;
import com.sun.source.tree.ThrowTree;
import com.sun.source.tree.Tree;
import com.sun.source.tree.TryTree;
import com.sun.source.tree.TypeCastTree;
import com.sun.source.tree.VariableTree;
import com.sun.source.tree.WhileLoopTree;
import com.sun.source.util.JavacTask;
import com.sun.source.util.TreePath;
import com.sun.source.util.TreePathScanner;
import com.sun.source.util.Trees;
import java.nio.file.Path;
import java.util.ArrayList;
import java.util.HashMap;
import java.util.List;
import java.util.Map;
import java.util.Set;
import java.util.TreeMap;
import java.util.TreeSet;
import javax.lang.model.element.Element;
import javax.lang.model.element.ElementKind;
import javax.lang.model.element.Modifier;
import javax.lang.model.element.TypeElement;
import javax.tools.JavaCompiler;
import javax.tools.StandardJavaFileManager;
import javax.tools.ToolProvider;

/**
 * The source keeps to ../shared/LANGUAGE.md, as far as its own lines show it. Where a rule leaves more than the class
 * needs (loops by while, lists, doubles, catches), this test holds the class to what it needs: change it with the class.
 */
public final class NotEndedLanguage extends TreePathScanner<Void, Void> {
    private static final String SOURCE = "src/main/java/NotEnded.java";
    private static final Set<String> LIBRARY = Set.of("String.indexOf", "Arrays.fill", "Arrays.copyOf", "Math.max",
            "Math.min", "Math.abs", "Integer.bitCount", "Integer.compare", "Object.<init>",
            "NoSuchElementException.<init>");
    private static final Set<String> TYPES = Set.of("int", "long", "char", "boolean", "String", "int[]", "long[]",
            "char[]");
    /** Who makes objects, but for constructors: a text is kept in rows of its own length. */
    private static final Set<String> MAKERS = Set.of("Reader.rule");
    private static final int MOST_LINES = 60;
    private static final int MOST_DEEP = 8;

    private static int wrong = 0;

    private final Trees trees;
    private final CompilationUnitTree unit;
    private final Set<String> classes = new TreeSet<>();
    private final Map<String, Set<String>> calls = new TreeMap<>();
    private final Map<String, String> parameters = new TreeMap<>();
    private final Map<String, Integer> depths = new HashMap<>();

    private NotEndedLanguage(Trees trees, CompilationUnitTree unit) {
        this.trees = trees;
        this.unit = unit;
    }

    public static void main(String[] args) throws Exception {
        JavaCompiler compiler = ToolProvider.getSystemJavaCompiler();
        try (StandardJavaFileManager files = compiler.getStandardFileManager(null, null, null)) {
            JavacTask task = (JavacTask) compiler.getTask(null, files, null, List.of("-proc:none"), null,
                    files.getJavaFileObjects(Path.of(SOURCE)));
            List<CompilationUnitTree> units = new ArrayList<>();
            task.parse().forEach(units::add);
            task.analyze();
            rule(1, units.size() == 1, "one file");
            NotEndedLanguage look = new NotEndedLanguage(Trees.instance(task), units.get(0));
            look.nameClasses();
            look.scan(units.get(0), null);
            look.checkCalls();
        }
        System.out.println(wrong == 0 ? "the rules of the language are kept" : wrong + " things are outside the rules");
        if (wrong != 0) {
            System.exit(1);
        }
    }

    private static void rule(int number, boolean kept, String what) {
        if (!kept) {
            wrong++;
            System.out.println("rule " + number + ": " + what);
        }
    }

    // ---- names and places ----

    private void nameClasses() {
        rule(1, unit.getPackageName() == null, "no package line");
        rule(1, unit.getTypeDecls().size() == 1, "one class at the top");
        ClassTree top = (ClassTree) unit.getTypeDecls().get(0);
        classes.add(top.getSimpleName().toString());
        for (Tree member : top.getMembers()) {
            if (member instanceof ClassTree inside) {
                classes.add(inside.getSimpleName().toString());
            }
        }
        rule(11, classes.size() <= 12, "some twelve classes");
    }

    private long line(long position) {
        return unit.getLineMap().getLineNumber(position);
    }

    private String at(Tree tree) {
        return " at line " + line(trees.getSourcePositions().getStartPosition(unit, tree));
    }

    private static String nameOf(Element method) {
        return method.getEnclosingElement().getSimpleName() + "." + method.getSimpleName();
    }

    /** The method or the constructor that a place stands in; the constructor for what begins a field. */
    private String here() {
        for (TreePath path = getCurrentPath(); path != null; path = path.getParentPath()) {
            if (path.getLeaf() instanceof MethodTree) {
                return nameOf(trees.getElement(path));
            }
            if (path.getLeaf() instanceof ClassTree) {
                return trees.getElement(path).getSimpleName() + ".<init>";
            }
        }
        return "";
    }

    private void forbidden(int number, Tree tree, String what) {
        rule(number, false, what + at(tree));
    }

    // ---- rules that one place shows ----

    @Override
    public Void visitImport(ImportTree tree, Void none) {
        String name = tree.getQualifiedIdentifier().toString();
        rule(4, Set.of("java.util.Arrays", "java.util.NoSuchElementException").contains(name), "no import of " + name);
        return null;
    }

    @Override
    public Void visitClass(ClassTree tree, Void none) {
        Element element = trees.getElement(getCurrentPath());
        boolean top = element.getEnclosingElement().getKind() == ElementKind.PACKAGE;
        Set<Modifier> modifiers = element.getModifiers();
        rule(2, classes.contains(tree.getSimpleName().toString()), "no local or anonymous class" + at(tree));
        rule(1, top == modifiers.contains(Modifier.PUBLIC), "only the face is public" + at(tree));
        rule(1, top != modifiers.contains(Modifier.STATIC), "classes inside are static" + at(tree));
        rule(1, modifiers.contains(Modifier.FINAL), "classes are final" + at(tree));
        int fields = 0;
        for (Tree member : tree.getMembers()) {
            rule(5, !(member instanceof BlockTree), "no initialiser block" + at(member));
            if (member instanceof VariableTree field) {
                fields += field.getModifiers().getFlags().contains(Modifier.STATIC) ? 0 : 1;
            }
        }
        rule(11, fields <= 20, "some twenty fields" + at(tree));
        return super.visitClass(tree, none);
    }

    @Override
    public Void visitMethod(MethodTree tree, Void none) {
        Element element = trees.getElement(getCurrentPath());
        String name = nameOf(element);
        rule(11, tree.getParameters().size() <= 7, "seven parameters" + at(tree));
        rule(8, calls.put(name, calls.getOrDefault(name, new TreeSet<>())) == null || name.endsWith(".<init>"),
                name + " is told once, so that calls of it can be told apart");
        parameters.put(name, tree.getParameters().toString());
        if (tree.getBody() != null && trees.getSourcePositions().getEndPosition(unit, tree) >= 0) {
            long lines = line(trees.getSourcePositions().getEndPosition(unit, tree))
                    - line(trees.getSourcePositions().getStartPosition(unit, tree)) + 1;
            rule(11, lines <= MOST_LINES, name + " is short");
        }
        return super.visitMethod(tree, none);
    }

    @Override
    public Void visitVariable(VariableTree tree, Void none) {
        Element element = trees.getElement(getCurrentPath());
        String type = tree.getType().toString();
        boolean own = classes.contains(type.replace("[]", "")) && !type.endsWith("[][]");
        rule(3, own || TYPES.contains(type), "type " + type + at(tree));
        if (element.getKind() == ElementKind.FIELD && element.getModifiers().contains(Modifier.STATIC)) {
            rule(5, element.getModifiers().contains(Modifier.FINAL), "a static field is final" + at(tree));
            rule(5, Set.of("int", "long", "char", "boolean", "String").contains(type), "a constant" + at(tree));
        }
        return super.visitVariable(tree, none);
    }

    @Override
    public Void visitMethodInvocation(MethodInvocationTree tree, Void none) {
        called(trees.getElement(getCurrentPath()), tree);
        return super.visitMethodInvocation(tree, none);
    }

    @Override
    public Void visitNewClass(NewClassTree tree, Void none) {
        called(trees.getElement(getCurrentPath()), tree);
        boolean thrown = getCurrentPath().getParentPath().getLeaf() instanceof ThrowTree;
        rule(2, tree.getClassBody() == null, "no anonymous class" + at(tree));
        rule(12, thrown || here().endsWith(".<init>") || MAKERS.contains(here()), "an object is made" + at(tree));
        return super.visitNewClass(tree, none);
    }

    @Override
    public Void visitNewArray(NewArrayTree tree, Void none) {
        rule(12, here().endsWith(".<init>"), "a row is made" + at(tree));
        return super.visitNewArray(tree, none);
    }

    private void called(Element method, Tree tree) {
        TypeElement owner = (TypeElement) method.getEnclosingElement();
        String name = nameOf(method);
        if (!classes.contains(owner.getSimpleName().toString())) {
            rule(4, LIBRARY.contains(name), name + " of the library" + at(tree));
            rule(12, !name.equals("Arrays.copyOf") || MAKERS.contains(here()), "a row is made" + at(tree));
            return;
        }
        calls.computeIfAbsent(here(), key -> new TreeSet<>()).add(name);
    }

    @Override
    public Void visitThrow(ThrowTree tree, Void none) {
        rule(6, here().equals("NotEnded.worth"), "only worth throws" + at(tree));
        rule(6, tree.getExpression().toString().equals("new NoSuchElementException()"), "what it throws" + at(tree));
        return super.visitThrow(tree, none);
    }

    @Override
    public Void visitBinary(BinaryTree tree, Void none) {
        if (tree.getKind() == Tree.Kind.DIVIDE || tree.getKind() == Tree.Kind.REMAINDER) {
            String divisor = tree.getRightOperand().toString();
            rule(7, divisor.matches("[1-9][0-9]*") || isLookedAt(divisor), "a divisor is looked at" + at(tree));
        }
        return super.visitBinary(tree, none);
    }

    private boolean isLookedAt(String divisor) {
        for (TreePath path = getCurrentPath(); !(path.getLeaf() instanceof MethodTree); path = path.getParentPath()) {
            if (path.getLeaf() instanceof ConditionalExpressionTree choice) {
                String condition = choice.getCondition().toString();
                return condition.equals("(" + divisor + " == 0)") || condition.equals(divisor + " == 0")
                        || condition.equals(divisor + " > 0");
            }
        }
        return false;
    }

    @Override
    public Void visitForLoop(ForLoopTree tree, Void none) {
        String end = tree.getCondition() == null ? "" : tree.getCondition().toString();
        rule(9, end.matches("(?s)\\(?[a-z]+( \\+ CLAUSE_SIZE)? (<|<=|>|>=) .*"), "a loop's end is seen" + at(tree));
        rule(9, tree.getUpdate().size() == 1, "a loop has a counter" + at(tree));
        return super.visitForLoop(tree, none);
    }

    @Override
    public Void visitTypeCast(TypeCastTree tree, Void none) {
        rule(6, Set.of("int", "long", "char").contains(tree.getType().toString()), "casts of numbers alone" + at(tree));
        return super.visitTypeCast(tree, none);
    }

    @Override
    public Void visitLambdaExpression(LambdaExpressionTree tree, Void none) {
        forbidden(2, tree, "a lambda");
        return null;
    }

    @Override
    public Void visitMemberReference(MemberReferenceTree tree, Void none) {
        forbidden(2, tree, "a method reference");
        return null;
    }

    @Override
    public Void visitTry(TryTree tree, Void none) {
        forbidden(6, tree, "a try");
        return null;
    }

    @Override
    public Void visitSynchronized(SynchronizedTree tree, Void none) {
        forbidden(6, tree, "synchronized");
        return null;
    }

    @Override
    public Void visitAssert(AssertTree tree, Void none) {
        forbidden(6, tree, "an assert");
        return null;
    }

    @Override
    public Void visitInstanceOf(InstanceOfTree tree, Void none) {
        forbidden(6, tree, "instanceof");
        return null;
    }

    @Override
    public Void visitWhileLoop(WhileLoopTree tree, Void none) {
        forbidden(9, tree, "a while, whose end cannot be seen here");
        return null;
    }

    @Override
    public Void visitDoWhileLoop(DoWhileLoopTree tree, Void none) {
        forbidden(9, tree, "a do, whose end cannot be seen here");
        return null;
    }

    // ---- rules that the calls show together ----

    private Set<String> reachedFrom(String method) {
        Set<String> reached = new TreeSet<>();
        List<String> open = new ArrayList<>(calls.getOrDefault(method, Set.of()));
        while (!open.isEmpty()) {
            String next = open.remove(open.size() - 1);
            if (reached.add(next)) {
                open.addAll(calls.getOrDefault(next, Set.of()));
            }
        }
        return reached;
    }

    private boolean callOneAnother(String one, String other) {
        return reachedFrom(one).contains(other) && reachedFrom(other).contains(one);
    }

    /** How deep calls go from a method on; those that call one another are one step. */
    private int depthOf(String method) {
        Integer known = depths.get(method);
        if (known != null) {
            return known;
        }
        int below = 0;
        for (String part : calls.keySet()) {
            if (part.equals(method) || callOneAnother(part, method)) {
                for (String next : calls.get(part)) {
                    if (!next.equals(method) && !callOneAnother(next, method)) {
                        below = Math.max(below, depthOf(next));
                    }
                }
            }
        }
        depths.put(method, below + 1);
        return below + 1;
    }

    private void checkCalls() {
        int recursive = 0;
        for (String method : calls.keySet()) {
            rule(11, depthOf(method) <= MOST_DEEP, method + " goes " + depthOf(method) + " deep");
            if (reachedFrom(method).contains(method)) {
                recursive++;
                rule(8, parameters.get(method).startsWith("int depth"), method + " carries its depth");
            }
        }
        rule(8, recursive == 6, "six methods read what stands within one another, and call one another for it");
        rule(11, depthOf("NotEnded.help") > MOST_DEEP / 2, "the calls have been followed to their ends");
    }
}
