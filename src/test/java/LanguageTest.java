import com.sun.source.tree.ClassTree;
import com.sun.source.tree.CompilationUnitTree;
import com.sun.source.tree.ImportTree;
import com.sun.source.tree.LineMap;
import com.sun.source.tree.MethodInvocationTree;
import com.sun.source.tree.MethodTree;
import com.sun.source.tree.NewClassTree;
import com.sun.source.tree.Tree;
import com.sun.source.tree.VariableTree;
import com.sun.source.util.JavacTask;
import com.sun.source.util.TreePathScanner;
import com.sun.source.util.Trees;
import java.io.IOException;
import java.nio.file.Path;
import java.util.ArrayList;
import java.util.EnumSet;
import java.util.HashMap;
import java.util.HashSet;
import java.util.List;
import java.util.Map;
import java.util.Set;
import javax.lang.model.element.Element;
import javax.lang.model.element.ExecutableElement;
import javax.lang.model.element.Modifier;
import javax.lang.model.element.TypeElement;
import javax.lang.model.util.Elements;
import javax.tools.JavaCompiler;
import javax.tools.StandardJavaFileManager;
import javax.tools.ToolProvider;

/** What a compiler can see of LANGUAGE.md: rules 1, 2, 4, 5, 6, 11 and the depth of calls. */
final class LanguageTest extends TreePathScanner<Void, Void> {
    private static final Path SOURCE = Path.of("src/main/java/VeilMint.java");
    private static final Set<String> FACE = Set.of("feed", "end", "again", "out", "outs", "key", "retire", "look",
        "digest", "request", "issue", "issueMany", "finalize", "finalizeMany", "redeem", "cut", "power", "disk",
        "count");
    private static final Set<String> LIBRARY = Set.of("java.lang.Math.min", "java.lang.Math.max",
        "java.lang.String.length", "java.lang.String.charAt", "java.lang.System.arraycopy", "java.util.Arrays.copyOf",
        "java.util.Arrays.copyOfRange", "java.util.Arrays.fill", "java.lang.Object.<init>",
        "java.util.NoSuchElementException.<init>");
    private static final Set<Tree.Kind> BANNED = EnumSet.of(Tree.Kind.LAMBDA_EXPRESSION, Tree.Kind.MEMBER_REFERENCE,
        Tree.Kind.TRY, Tree.Kind.SYNCHRONIZED, Tree.Kind.ASSERT, Tree.Kind.ANNOTATION, Tree.Kind.SWITCH_EXPRESSION,
        Tree.Kind.INSTANCE_OF, Tree.Kind.DOUBLE_LITERAL, Tree.Kind.FLOAT_LITERAL);

    private final Trees trees;
    private final Elements elements;
    private final LineMap lines;
    private final CompilationUnitTree unit;
    private final Map<ExecutableElement, Set<ExecutableElement>> calls = new HashMap<>();
    private final List<TypeElement> classes = new ArrayList<>();

    private LanguageTest(JavacTask task, CompilationUnitTree unit) {
        trees = Trees.instance(task);
        elements = task.getElements();
        lines = unit.getLineMap();
        this.unit = unit;
    }

    public static void main(String[] args) throws IOException {
        JavaCompiler compiler = ToolProvider.getSystemJavaCompiler();
        try (StandardJavaFileManager files = compiler.getStandardFileManager(null, null, null)) {
            JavacTask task = (JavacTask) compiler.getTask(null, files, null, List.of("-proc:none"), null,
                files.getJavaFileObjects(SOURCE));
            CompilationUnitTree unit = task.parse().iterator().next();
            task.analyze();
            LanguageTest test = new LanguageTest(task, unit);
            for (ImportTree one : unit.getImports()) {
                String name = one.getQualifiedIdentifier().toString();
                Pair.check("import " + name, Set.of("java.util.Arrays", "java.util.NoSuchElementException")
                    .contains(name));
            }
            test.scan(unit, null);
            Pair.check("no more than twelve classes", test.classes.size() <= 12);
            test.depths();
        }
        Pair.finish("LanguageTest");
    }

    @Override
    public Void scan(Tree tree, Void none) {
        if (tree != null) {
            Pair.check(tree.getKind() + " at line " + lines.getLineNumber(
                trees.getSourcePositions().getStartPosition(unit, tree)), !BANNED.contains(tree.getKind()));
        }
        return super.scan(tree, none);
    }

    @Override
    public Void visitClass(ClassTree tree, Void none) {
        TypeElement type = (TypeElement) trees.getElement(getCurrentPath());
        classes.add(type);
        boolean outer = type.getSimpleName().contentEquals("VeilMint");
        Set<Modifier> modifiers = type.getModifiers();
        Pair.check(type + " is a class of its kind", outer
            ? modifiers.containsAll(Set.of(Modifier.PUBLIC, Modifier.FINAL))
            : modifiers.contains(Modifier.STATIC) && !modifiers.contains(Modifier.PUBLIC)
                && !modifiers.contains(Modifier.PROTECTED));
        int fields = 0;
        for (Element member : type.getEnclosedElements()) {
            Set<Modifier> own = member.getModifiers();
            if (member.getKind().isField()) {
                fields += own.contains(Modifier.STATIC) ? 0 : 1;
                Pair.check(member + " is final, being static", !own.contains(Modifier.STATIC)
                    || own.contains(Modifier.FINAL));
            }
            if (outer && !member.getKind().isClass()) {
                Pair.check(member + " is of the face or private", own.contains(Modifier.PUBLIC)
                    || own.contains(Modifier.PRIVATE));
            }
            Pair.check(member + " hides behind a name of the face", outer && own.contains(Modifier.PUBLIC)
                || !(member instanceof ExecutableElement) || !FACE.contains(member.getSimpleName().toString()));
        }
        Pair.check(type + " has " + fields + " fields", fields <= 20);
        return super.visitClass(tree, none);
    }

    @Override
    public Void visitMethod(MethodTree tree, Void none) {
        ExecutableElement method = (ExecutableElement) trees.getElement(getCurrentPath());
        calls.computeIfAbsent(method, m -> new HashSet<>());
        long start = lines.getLineNumber(trees.getSourcePositions().getStartPosition(unit, tree));
        long end = lines.getLineNumber(trees.getSourcePositions().getEndPosition(unit, tree));
        Pair.check(method + " has " + (end - start + 1) + " lines", end - start < 60);
        Pair.check(method + " has at most seven parameters", tree.getParameters().size() <= 7);
        return super.visitMethod(tree, none);
    }

    @Override
    public Void visitMethodInvocation(MethodInvocationTree tree, Void none) {
        called((ExecutableElement) trees.getElement(getCurrentPath()));
        return super.visitMethodInvocation(tree, none);
    }

    @Override
    public Void visitNewClass(NewClassTree tree, Void none) {
        called((ExecutableElement) trees.getElement(getCurrentPath()));
        return super.visitNewClass(tree, none);
    }

    @Override
    public Void visitVariable(VariableTree tree, Void none) {
        String type = tree.getType().toString();
        Pair.check("type " + type, !type.matches("(double|float|Object|var)(\\[\\])*"));
        return super.visitVariable(tree, none);
    }

    private void called(ExecutableElement target) {
        TypeElement owner = (TypeElement) target.getEnclosingElement();
        if (!owner.getQualifiedName().toString().startsWith("VeilMint")) {
            Pair.check("the library's " + owner + "." + target.getSimpleName(),
                LIBRARY.contains(owner + "." + target.getSimpleName()));
            return;
        }
        Element within = trees.getElement(getCurrentPath());
        for (var path = getCurrentPath(); path != null; path = path.getParentPath()) {
            if (path.getLeaf() instanceof MethodTree) {
                within = trees.getElement(path);
                calls.get(within).add(target);
                return;
            }
            if (path.getLeaf() instanceof ClassTree) {
                within = trees.getElement(path);
                break;
            }
        }
        // What a field begins with is called by the constructor.
        for (Element member : within.getEnclosedElements()) {
            if (member.getSimpleName().contentEquals("<init>")) {
                calls.computeIfAbsent((ExecutableElement) member, m -> new HashSet<>()).add(target);
            }
        }
    }

    private void depths() {
        for (ExecutableElement method : calls.keySet()) {
            int depth = depth(method, 0);
            Pair.check(method.getEnclosingElement() + "." + method + " goes " + depth + " deep", depth <= 8);
        }
    }

    private int depth(ExecutableElement method, int above) {
        if (above > 20) {
            return 100;
        }
        int most = 0;
        for (ExecutableElement one : calls.getOrDefault(method, Set.of())) {
            for (ExecutableElement meant : calls.keySet()) {
                boolean overrides = elements.overrides(meant, one, (TypeElement) meant.getEnclosingElement());
                if (meant.equals(one) || overrides) {
                    most = Math.max(most, depth(meant, above + 1));
                }
            }
        }
        return most + 1;
    }
}
