import com.sun.source.tree.ClassTree;
import com.sun.source.tree.CompilationUnitTree;
import com.sun.source.tree.LambdaExpressionTree;
import com.sun.source.tree.MemberReferenceTree;
import com.sun.source.tree.MethodInvocationTree;
import com.sun.source.tree.MethodTree;
import com.sun.source.tree.NewArrayTree;
import com.sun.source.tree.NewClassTree;
import com.sun.source.tree.Tree;
import com.sun.source.tree.TypeCastTree;
import com.sun.source.tree.VariableTree;
import com.sun.source.util.JavacTask;
import com.sun.source.util.TreePathScanner;
import com.sun.source.util.Trees;
import java.io.IOException;
import java.nio.charset.StandardCharsets;
import java.nio.file.Path;
import java.util.List;
import java.util.Map;
import java.util.Set;
import java.util.TreeMap;
import java.util.TreeSet;
import javax.lang.model.element.Element;
import javax.lang.model.element.Modifier;
import javax.tools.JavaCompiler;
import javax.tools.StandardJavaFileManager;
import javax.tools.ToolProvider;

/** The rules of ../shared/LANGUAGE.md for which the words do not do: javac says what each word means. */
public final class RulesTest extends TreePathScanner<Void, Void> {
    private static final Path SOURCE = Path.of("src/main/java/SpreadGroups.java");
    /** Of rule 4 what the class has need of; another one that stands there may be put here. */
    private static final Set<String> LIBRARY = Set.of("Object.<init>", "String.length", "String.charAt",
        "Integer.bitCount", "System.arraycopy");
    private static final Set<String> PLAIN_TYPES = Set.of("int", "long", "short", "byte", "char", "boolean",
        "int[]", "long[]", "short[]", "byte[]", "char[]", "boolean[]", "java.lang.String");
    private static final String OWN = " of SpreadGroups";
    private static final int DEEPEST = 8;
    private static final int MOST_CLASSES = 12;
    private static final int MOST_FIELDS = 20;

    private static final Due due = new Due("RulesTest");

    private final Trees trees;
    private final Map<String, Set<String>> calls = new TreeMap<>();
    private int classes;

    private RulesTest(Trees trees) {
        this.trees = trees;
    }

    public static void main(String[] args) throws IOException {
        JavaCompiler compiler = ToolProvider.getSystemJavaCompiler();
        try (StandardJavaFileManager files = compiler.getStandardFileManager(null, null, StandardCharsets.UTF_8)) {
            JavacTask task = (JavacTask) compiler.getTask(null, files, null, List.of("-proc:none"), null,
                files.getJavaFileObjects(SOURCE));
            CompilationUnitTree unit = task.parse().iterator().next();
            task.analyze();
            RulesTest test = new RulesTest(Trees.instance(task));
            test.scan(unit, null);
            test.depths();
            test.rule(11, "few classes", test.classes <= MOST_CLASSES);
        }
        due.end();
    }

    private void rule(int number, String what, boolean holds) {
        due.is("rule " + number + ": " + what, holds ? 1 : 0, 1);
    }

    @Override
    public Void visitClass(ClassTree tree, Void none) {
        classes++;
        boolean nested = getCurrentPath().getParentPath().getLeaf() instanceof ClassTree;
        boolean outer = getCurrentPath().getParentPath().getLeaf() instanceof CompilationUnitTree;
        boolean isStatic = tree.getModifiers().getFlags().contains(Modifier.STATIC);
        rule(2, tree.getSimpleName() + " is the class itself or a static one in it", outer || (nested && isStatic));
        int fields = 0;
        for (Tree member : tree.getMembers()) {
            if (member instanceof VariableTree field) {
                fields += fieldCounts(field);
            }
        }
        rule(11, tree.getSimpleName() + " has few fields", fields <= MOST_FIELDS);
        return super.visitClass(tree, none);
    }

    /** 0: it is a constant. */
    private int fieldCounts(VariableTree field) {
        Set<Modifier> flags = field.getModifiers().getFlags();
        if (!flags.contains(Modifier.STATIC)) {
            return 1;
        }
        rule(5, field.getName() + " is final", flags.contains(Modifier.FINAL));
        rule(5, field.getName() + " is written out", field.getInitializer() != null);
        return 0;
    }

    @Override
    public Void visitVariable(VariableTree tree, Void none) {
        Element variable = trees.getElement(getCurrentPath());
        String type = variable.asType().toString();
        rule(3, tree.getName() + " is of a type that may be, " + type,
            PLAIN_TYPES.contains(type) || type.startsWith("SpreadGroups."));
        return super.visitVariable(tree, none);
    }

    @Override
    public Void visitMethodInvocation(MethodInvocationTree tree, Void none) {
        String called = nameOf(trees.getElement(getCurrentPath()));
        if (called.endsWith(OWN)) {
            calls.computeIfAbsent(caller(), c -> new TreeSet<>()).add(called);
        } else {
            rule(4, called + " is of the library that may be used", LIBRARY.contains(called));
        }
        return super.visitMethodInvocation(tree, none);
    }

    private static String nameOf(Element method) {
        Element owner = method.getEnclosingElement();
        boolean own = owner.toString().startsWith("SpreadGroups");
        return owner.getSimpleName() + "." + method.getSimpleName() + (own ? OWN : "");
    }

    private String caller() {
        for (Tree at : getCurrentPath()) {
            if (at instanceof MethodTree) {
                return nameOf(trees.getElement(trees.getPath(getCurrentPath().getCompilationUnit(), at)));
            }
        }
        return "a field";
    }

    /** Rule 12 lets any method make objects; here none but constructors do, for the room that all calls share. */
    @Override
    public Void visitNewClass(NewClassTree tree, Void none) {
        rule(12, tree + " is made with its owner", isWithOwner());
        rule(2, tree + " has no body", tree.getClassBody() == null);
        return super.visitNewClass(tree, none);
    }

    @Override
    public Void visitNewArray(NewArrayTree tree, Void none) {
        rule(12, tree + " is made with its owner", isWithOwner());
        return super.visitNewArray(tree, none);
    }

    private boolean isWithOwner() {
        String caller = caller();
        return caller.equals("a field") || caller.contains(".<init>");
    }

    @Override
    public Void visitTypeCast(TypeCastTree tree, Void none) {
        rule(6, tree + " is no cast to a class", PLAIN_TYPES.contains(tree.getType().toString()));
        return super.visitTypeCast(tree, none);
    }

    @Override
    public Void visitLambdaExpression(LambdaExpressionTree tree, Void none) {
        rule(2, "no lambda", false);
        return super.visitLambdaExpression(tree, none);
    }

    @Override
    public Void visitMemberReference(MemberReferenceTree tree, Void none) {
        rule(2, "no method reference", false);
        return super.visitMemberReference(tree, none);
    }

    private void depths() {
        rule(11, "calls are found", calls.size() > 50);
        for (String method : calls.keySet()) {
            int depth = depthOf(method, 1);
            rule(11, method + " goes " + depth + " deep", depth <= DEEPEST);
        }
    }

    /** Calls that come round to themselves are seen as deep, too. */
    private int depthOf(String method, int level) {
        if (level > 2 * DEEPEST) {
            return 1;
        }
        int deepest = 0;
        for (String called : calls.getOrDefault(method, Set.of())) {
            deepest = Math.max(deepest, depthOf(called, level + 1));
        }
        return deepest + 1;
    }
}
