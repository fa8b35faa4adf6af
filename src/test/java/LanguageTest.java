import com.sun.source.tree.BinaryTree;
import com.sun.source.tree.ClassTree;
import com.sun.source.tree.CompilationUnitTree;
import com.sun.source.tree.ForLoopTree;
import com.sun.source.tree.ImportTree;
import com.sun.source.tree.MethodInvocationTree;
import com.sun.source.tree.MethodTree;
import com.sun.source.tree.NewArrayTree;
import com.sun.source.tree.NewClassTree;
import com.sun.source.tree.Tree;
import com.sun.source.tree.TypeCastTree;
import com.sun.source.tree.VariableTree;
import com.sun.source.util.JavacTask;
import com.sun.source.util.TreePathScanner;
import com.sun.source.util.Trees;
import java.io.IOException;
import java.nio.file.Path;
import java.util.EnumSet;
import java.util.HashMap;
import java.util.HashSet;
import java.util.List;
import java.util.Map;
import java.util.Set;
import javax.lang.model.element.Element;
import javax.lang.model.element.ElementKind;
import javax.lang.model.element.ExecutableElement;
import javax.lang.model.element.Modifier;
import javax.lang.model.element.TypeElement;
import javax.tools.JavaCompiler;
import javax.tools.StandardJavaFileManager;
import javax.tools.ToolProvider;

/**
 * Those rules of LANGUAGE.md that can be looked up in the source, as narrow as the class is: what
 * the rules allow, but the class has never needed, is told here, too, so that it is looked at.
 */
public final class LanguageTest extends TreePathScanner<Void, Void> {
    private static final Check CHECK = new Check("LanguageTest");
    private static final int MOST_CLASSES = 12, MOST_FIELDS = 20, MOST_LINES = 60;
    private static final int MOST_PARAMETERS = 7, MOST_DEEP = 8;
    private static final Set<String> LIBRARY = Set.of("java.lang.Object.<init>", "java.lang.Math.max",
            "java.lang.Math.min", "java.lang.System.arraycopy");
    private static final Set<Tree.Kind> NEVER = EnumSet.of(Tree.Kind.LAMBDA_EXPRESSION,
            Tree.Kind.MEMBER_REFERENCE, Tree.Kind.SYNCHRONIZED, Tree.Kind.ASSERT, Tree.Kind.TRY,
            Tree.Kind.THROW, Tree.Kind.WHILE_LOOP, Tree.Kind.DO_WHILE_LOOP,
            Tree.Kind.SWITCH_EXPRESSION, Tree.Kind.STRING_LITERAL, Tree.Kind.INSTANCE_OF);
    private final Trees trees;
    private final CompilationUnitTree unit;
    private final Map<ExecutableElement, Set<ExecutableElement>> callsOf = new HashMap<>();
    private final Map<ExecutableElement, Integer> depths = new HashMap<>();
    private final Set<String> facing = new HashSet<>();
    private int classes;
    private ExecutableElement within;

    private LanguageTest(Trees trees, CompilationUnitTree unit) {
        this.trees = trees;
        this.unit = unit;
    }

    public static void main(String[] args) throws IOException {
        Path source = Path.of(System.getProperty("project", "."),
                "src/main/java/BorderThroughBed.java");
        JavaCompiler compiler = ToolProvider.getSystemJavaCompiler();
        try (StandardJavaFileManager files = compiler.getStandardFileManager(null, null, null)) {
            JavacTask task = (JavacTask) compiler.getTask(null, files, null,
                    List.of("-proc:none"), null, files.getJavaFileObjects(source));
            CompilationUnitTree unit = task.parse().iterator().next();
            task.analyze();
            LanguageTest test = new LanguageTest(Trees.instance(task), unit);
            test.scan(unit, null);
            test.deepest();
        }
        CHECK.end();
    }

    private void holds(int rule, String what, boolean does) {
        CHECK.due("rule " + rule + ": " + what, does ? 1 : 0, 1);
    }

    private String lineOf(Tree tree) {
        long start = trees.getSourcePositions().getStartPosition(unit, tree);
        return "line " + unit.getLineMap().getLineNumber(start);
    }

    @Override
    public Void scan(Tree tree, Void none) {
        if (tree != null && NEVER.contains(tree.getKind())) {
            holds(6, lineOf(tree) + ": the class needs no " + tree.getKind(), false);
        }
        return super.scan(tree, none);
    }

    @Override
    public Void visitImport(ImportTree tree, Void none) {
        holds(4, "no import", false);
        return null;
    }

    @Override
    public Void visitClass(ClassTree tree, Void none) {
        classes++;
        TypeElement own = (TypeElement) trees.getElement(getCurrentPath());
        boolean isOuter = own.getEnclosingElement().getKind() == ElementKind.PACKAGE;
        int fields = 0;
        for (Element member : own.getEnclosedElements()) {
            if (member.getKind() == ElementKind.FIELD) {
                boolean isStatic = member.getModifiers().contains(Modifier.STATIC);
                holds(5, own + "." + member + " is final, if it is static",
                        !isStatic || member.getModifiers().contains(Modifier.FINAL));
                fields += isStatic ? 0 : 1;
            }
            if (isOuter && member.getModifiers().contains(Modifier.PUBLIC)) {
                facing.add(member.getSimpleName().toString());
            }
        }
        holds(11, own + " has " + fields + " fields", fields <= MOST_FIELDS);
        holds(2, own + " is static", isOuter || own.getModifiers().contains(Modifier.STATIC));
        for (Tree member : tree.getMembers()) {
            holds(5, own + " has no initialiser block", member.getKind() != Tree.Kind.BLOCK);
        }
        return super.visitClass(tree, none);
    }

    @Override
    public Void visitMethod(MethodTree tree, Void none) {
        within = (ExecutableElement) trees.getElement(getCurrentPath());
        callsOf.put(within, new HashSet<>());
        boolean isOpen = within.getModifiers().contains(Modifier.PUBLIC);
        boolean isConstructor = within.getKind() == ElementKind.CONSTRUCTOR;
        String name = within.getSimpleName().toString();
        holds(1, within + " is no name of the face", isOpen || isConstructor || !facing.contains(name));
        holds(11, within + " takes so many", tree.getParameters().size() <= MOST_PARAMETERS);
        long start = trees.getSourcePositions().getStartPosition(unit, tree);
        long end = trees.getSourcePositions().getEndPosition(unit, tree);
        if (end > start) {
            long lines = unit.getLineMap().getLineNumber(end) - unit.getLineMap().getLineNumber(start);
            holds(11, within + " has " + (lines + 1) + " lines", lines < MOST_LINES);
        }
        super.visitMethod(tree, none);
        within = null;
        return null;
    }

    @Override
    public Void visitMethodInvocation(MethodInvocationTree tree, Void none) {
        ExecutableElement called = (ExecutableElement) trees.getElement(getCurrentPath());
        holds(12, lineOf(tree) + ": a call stands in a method", within != null);
        if (isOwn(called)) {
            callsOf.getOrDefault(within, new HashSet<>()).add(called);
        } else {
            String name = called.getEnclosingElement() + "." + called.getSimpleName();
            holds(4, lineOf(tree) + ": " + name + " is in the list", LIBRARY.contains(name));
        }
        return super.visitMethodInvocation(tree, none);
    }

    private static boolean isOwn(Element element) {
        return element.toString().startsWith("BorderThroughBed")
                || element.getEnclosingElement().toString().startsWith("BorderThroughBed");
    }

    /** The class makes all its objects and arrays when an object of it is made. */
    @Override
    public Void visitNewClass(NewClassTree tree, Void none) {
        holds(12, lineOf(tree) + ": an object is made by a field alone", within == null);
        holds(4, lineOf(tree) + ": one of its own",
                isOwn(trees.getElement(getCurrentPath()).getEnclosingElement()));
        return super.visitNewClass(tree, none);
    }

    @Override
    public Void visitNewArray(NewArrayTree tree, Void none) {
        holds(12, lineOf(tree) + ": an array is made by a field alone", within == null);
        return super.visitNewArray(tree, none);
    }

    @Override
    public Void visitForLoop(ForLoopTree tree, Void none) {
        holds(9, lineOf(tree) + ": the loop counts against a bound", tree.getCondition() != null
                && tree.getInitializer().size() == 1 && tree.getUpdate().size() == 1);
        return super.visitForLoop(tree, none);
    }

    @Override
    public Void visitBinary(BinaryTree tree, Void none) {
        boolean divides = tree.getKind() == Tree.Kind.DIVIDE || tree.getKind() == Tree.Kind.REMAINDER;
        holds(7, lineOf(tree) + ": a divisor is a number that stands there",
                !divides || tree.getRightOperand().getKind() == Tree.Kind.INT_LITERAL);
        return super.visitBinary(tree, none);
    }

    @Override
    public Void visitVariable(VariableTree tree, Void none) {
        String type = trees.getElement(getCurrentPath()).asType().toString();
        holds(3, lineOf(tree) + ": " + type + " is a type of the rules",
                Set.of("int", "long", "boolean", "int[]").contains(type)
                        || type.startsWith("BorderThroughBed"));
        return super.visitVariable(tree, none);
    }

    @Override
    public Void visitTypeCast(TypeCastTree tree, Void none) {
        holds(6, lineOf(tree) + ": a cast is one of numbers",
                tree.getType().getKind() == Tree.Kind.PRIMITIVE_TYPE);
        return super.visitTypeCast(tree, none);
    }

    // ---- how deep calls go

    private void deepest() {
        holds(11, "there are " + classes + " classes", classes <= MOST_CLASSES);
        for (ExecutableElement method : callsOf.keySet()) {
            int depth = depthOf(method, 0);
            holds(11, method + " goes " + depth + " deep", depth <= MOST_DEEP);
        }
    }

    private int depthOf(ExecutableElement method, int ahead) {
        Integer known = depths.get(method);
        if (known != null || ahead > 2 * MOST_DEEP) {
            return known != null ? known : 1;
        }
        int depth = 1;
        for (ExecutableElement called : callsOf.getOrDefault(method, Set.of())) {
            for (ExecutableElement one : meantBy(called)) {
                depth = Math.max(depth, 1 + depthOf(one, ahead + 1));
            }
        }
        depths.put(method, depth);
        return depth;
    }

    /** An abstract method is one of those that bear its name in the classes that have it. */
    private Set<ExecutableElement> meantBy(ExecutableElement called) {
        if (!called.getModifiers().contains(Modifier.ABSTRACT)) {
            return Set.of(called);
        }
        Set<ExecutableElement> meant = new HashSet<>();
        for (ExecutableElement method : callsOf.keySet()) {
            TypeElement type = (TypeElement) method.getEnclosingElement();
            if (method.getSimpleName().equals(called.getSimpleName()) && method != called
                    && type.getSuperclass().equals(called.getEnclosingElement().asType())) {
                meant.add(method);
            }
        }
        return meant;
    }
}
