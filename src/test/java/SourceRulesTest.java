import com.sun.source.tree.ClassTree;
import com.sun.source.tree.LambdaExpressionTree;
import com.sun.source.tree.LineMap;
import com.sun.source.tree.MemberReferenceTree;
import com.sun.source.tree.MemberSelectTree;
import com.sun.source.tree.MethodInvocationTree;
import com.sun.source.tree.MethodTree;
import com.sun.source.tree.NewClassTree;
import com.sun.source.tree.Tree;
import com.sun.source.tree.TryTree;
import com.sun.source.tree.VariableTree;
import com.sun.source.tree.WhileLoopTree;
import com.sun.source.util.JavacTask;
import com.sun.source.util.TreePath;
import com.sun.source.util.TreePathScanner;
import com.sun.source.util.Trees;
import java.io.File;
import java.io.IOException;
import java.nio.file.Files;
import java.nio.file.Path;
import java.util.ArrayList;
import java.util.HashMap;
import java.util.HashSet;
import java.util.List;
import java.util.Map;
import java.util.Set;
import java.util.TreeSet;
import javax.lang.model.element.Element;
import javax.lang.model.element.Modifier;
import javax.tools.JavaCompiler;
import javax.tools.StandardJavaFileManager;
import javax.tools.ToolProvider;

/** What ../shared/LANGUAGE.md wants of the source and a machine can see: names, lengths, depths and the library. */
final class SourceRulesTest extends TreePathScanner<Void, Void> {
    private static final Path SOURCE = Path.of("src/main/java/OakYard.java");
    private static final Set<String> LIBRARY = Set.of("java.lang.System.arraycopy", "java.util.Arrays.copyOf",
            "java.util.Arrays.fill", "java.lang.Math.min", "java.lang.Math.max", "java.lang.Math.abs",
            "java.lang.Math.floorMod", "java.lang.Integer.bitCount", "java.lang.String.length", "java.lang.String.charAt");

    private final Trees trees;
    private final LineMap lines;
    private final Set<String> faults = new TreeSet<>();
    private final Set<String> face = new HashSet<>();
    private final Map<Element, Set<Element>> calls = new HashMap<>();
    private final Map<String, Integer> fields = new HashMap<>();
    private int classes;
    private Element method;

    private SourceRulesTest(Trees trees, com.sun.source.tree.CompilationUnitTree unit) {
        this.trees = trees;
        this.lines = unit.getLineMap();
        for (java.lang.reflect.Method m : OakYard.class.getMethods()) {
            if (m.getDeclaringClass() == OakYard.class) {
                face.add(m.getName());
            }
        }
    }

    public static void main(String[] args) throws IOException {
        JavaCompiler compiler = ToolProvider.getSystemJavaCompiler();
        File none = Files.createTempDirectory("rules").toFile();
        try (StandardJavaFileManager files = compiler.getStandardFileManager(null, null, null)) {
            JavacTask task = (JavacTask) compiler.getTask(null, files, null, List.of("-d", none.getPath()), null,
                    files.getJavaFileObjects(SOURCE));
            com.sun.source.tree.CompilationUnitTree unit = task.parse().iterator().next();
            task.analyze();
            SourceRulesTest test = new SourceRulesTest(Trees.instance(task), unit);
            test.scan(unit, null);
            test.end();
        }
    }

    private void end() {
        check(classes <= 12, "rule 11: " + classes + " classes");
        fields.forEach((name, count) -> check(count <= 20, "rule 11: " + name + " has " + count + " fields"));
        int deepest = 0;
        for (Element from : calls.keySet()) {
            deepest = Math.max(deepest, depth(from, new ArrayList<>()));
        }
        check(deepest <= 8, "rule 11: calls go " + deepest + " deep");
        faults.forEach(System.out::println);
        System.out.println("calls go " + deepest + " deep, " + classes + " classes, fields " + fields);
        System.exit(faults.isEmpty() ? 0 : 1);
    }

    /** The longest chain of calls from a method on in which none stands twice. */
    private int depth(Element from, List<Element> open) {
        if (open.contains(from) || !calls.containsKey(from)) {
            return 0;
        }
        open.add(from);
        int deepest = 0;
        for (Element to : calls.get(from)) {
            deepest = Math.max(deepest, depth(to, open));
        }
        open.remove(from);
        return deepest + 1;
    }

    private void check(boolean right, String fault) {
        if (!right) {
            faults.add(fault);
        }
    }

    private String here(Tree tree) {
        long at = trees.getSourcePositions().getStartPosition(getCurrentPath().getCompilationUnit(), tree);
        return "line " + lines.getLineNumber(at) + ": ";
    }

    private Element element() {
        return trees.getElement(getCurrentPath());
    }

    @Override
    public Void visitClass(ClassTree tree, Void none) {
        classes++;
        boolean inside = !tree.getSimpleName().contentEquals("OakYard");
        Set<Modifier> is = tree.getModifiers().getFlags();
        check(inside == is.contains(Modifier.PRIVATE) && is.contains(Modifier.FINAL), here(tree) + "rule 1: a class");
        check(inside == is.contains(Modifier.STATIC), here(tree) + "rule 2: a class that is not static");
        for (Tree member : tree.getMembers()) {
            check(member.getKind() != Tree.Kind.BLOCK, here(member) + "rule 5: an initialiser block");
        }
        return super.visitClass(tree, none);
    }

    @Override
    public Void visitVariable(VariableTree tree, Void none) {
        Element it = element();
        if (it != null && it.getKind() == javax.lang.model.element.ElementKind.FIELD) {
            boolean constant = tree.getModifiers().getFlags().contains(Modifier.STATIC);
            boolean last = tree.getModifiers().getFlags().contains(Modifier.FINAL);
            check(!constant || last, here(tree) + "rule 5: a static field that is not final");
            check(it.getModifiers().contains(Modifier.PRIVATE) || it.getSimpleName().contentEquals("NONE"),
                    here(tree) + "rule 1: a field that is not private");
            fields.merge(it.getEnclosingElement().getSimpleName().toString(), constant ? 0 : 1, Integer::sum);
        }
        return super.visitVariable(tree, none);
    }

    @Override
    public Void visitMethod(MethodTree tree, Void none) {
        method = element();
        calls.put(method, new HashSet<>());
        String name = tree.getName().toString();
        boolean open = tree.getModifiers().getFlags().contains(Modifier.PUBLIC);
        check(open || !face.contains(name), here(tree) + "rule 1: " + name + " bears a name of the face");
        check(tree.getParameters().size() <= 7, here(tree) + "rule 11: parameters of " + name);
        long from = trees.getSourcePositions().getStartPosition(getCurrentPath().getCompilationUnit(), tree);
        long to = trees.getSourcePositions().getEndPosition(getCurrentPath().getCompilationUnit(), tree);
        if (from >= 0 && to >= 0) {
            check(lines.getLineNumber(to) - lines.getLineNumber(from) < 60, here(tree) + "rule 11: " + name + " is long");
        }
        return super.visitMethod(tree, none);
    }

    @Override
    public Void visitMethodInvocation(MethodInvocationTree tree, Void none) {
        called(trees.getElement(new TreePath(getCurrentPath(), tree.getMethodSelect())), tree);
        return super.visitMethodInvocation(tree, none);
    }

    @Override
    public Void visitNewClass(NewClassTree tree, Void none) {
        called(element(), tree);
        return super.visitNewClass(tree, none);
    }

    private void called(Element it, Tree tree) {
        if (it == null || it.getSimpleName().contentEquals("super") || it.getSimpleName().contentEquals("<init>")) {
            return;
        }
        String owner = it.getEnclosingElement().toString();
        if (owner.startsWith("OakYard")) {
            calls.getOrDefault(method, new HashSet<>()).add(it);
            return;
        }
        check(LIBRARY.contains(owner + "." + it.getSimpleName()), here(tree) + "rule 4: " + owner + "." + it.getSimpleName());
    }

    @Override
    public Void visitMemberSelect(MemberSelectTree tree, Void none) {
        Element it = element();
        boolean constant = it != null && it.getKind().isField() && it.getModifiers().contains(Modifier.STATIC);
        check(!constant || it.getEnclosingElement().toString().startsWith("OakYard"), here(tree) + "rule 4: " + tree);
        return super.visitMemberSelect(tree, none);
    }

    @Override
    public Void visitLambdaExpression(LambdaExpressionTree tree, Void none) {
        check(false, here(tree) + "rule 2: a lambda");
        return super.visitLambdaExpression(tree, none);
    }

    @Override
    public Void visitMemberReference(MemberReferenceTree tree, Void none) {
        check(false, here(tree) + "rule 2: a method reference");
        return super.visitMemberReference(tree, none);
    }

    @Override
    public Void visitTry(TryTree tree, Void none) {
        check(false, here(tree) + "rule 6: a try that nothing needs");
        return super.visitTry(tree, none);
    }

    @Override
    public Void visitWhileLoop(WhileLoopTree tree, Void none) {
        check(tree.getCondition().toString().contains("at < length"), here(tree) + "rule 9: a while without a bound");
        return super.visitWhileLoop(tree, none);
    }
}
