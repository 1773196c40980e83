import com.sun.source.tree.BinaryTree;
import com.sun.source.tree.ClassTree;
import com.sun.source.tree.CompilationUnitTree;
import com.sun.source.tree.CompoundAssignmentTree;
import com.sun.source.tree.MethodInvocationTree;
import com.sun.source.tree.MethodTree;
import com.sun.source.tree.NewClassTree;
import com.sun.source.tree.ThrowTree;
import com.sun.source.tree.Tree;
import com.sun.source.tree.VariableTree;
import com.sun.source.util.JavacTask;
import com.sun.source.util.TreePath;
import com.sun.source.util.TreePathScanner;
import com.sun.source.util.Trees;
import java.io.File;
import java.util.HashMap;
import java.util.Map;
import java.util.Set;
import java.util.TreeSet;
import javax.lang.model.element.Element;
import javax.lang.model.element.ElementKind;
import javax.lang.model.element.Modifier;
import javax.lang.model.type.TypeMirror;
import javax.tools.JavaCompiler;
import javax.tools.StandardJavaFileManager;
import javax.tools.ToolProvider;

/** What of LANGUAGE.md the compiler knows: classes, fields, parameters, the library, how deep calls go. */
public final class RulesTest extends TreePathScanner<Void, Void> {
    private static final int DEEPEST = 8;
    private static final int MOST_CLASSES = 12;
    private static final int MOST_FIELDS = 20;
    private static final int MOST_PARAMETERS = 7;

    /** What of rule 4 the program uses. */
    private static final Set<String> LIBRARY = Set.of("java.lang.Math.max(int,int)", "java.lang.Math.min(int,int)",
        "java.lang.Math.floorMod(int,int)", "java.util.Arrays.fill(int[],int)",
        "java.lang.System.arraycopy(java.lang.Object,int,java.lang.Object,int,int)",
        "java.util.NoSuchElementException.NoSuchElementException()", "java.lang.Object.Object()");

    private static int wrong = 0;

    private final Trees trees;
    private final Map<String, Set<String>> calls = new HashMap<>();
    private String method = "";
    private boolean inConstructor = false;
    private int classes = 0;
    private int methods = 0;

    private RulesTest(Trees trees) {
        this.trees = trees;
    }

    private static void check(String what, boolean holds) {
        if (!holds) {
            wrong++;
            System.out.println("RulesTest: " + what);
        }
    }

    private Element element() {
        return trees.getElement(getCurrentPath());
    }

    // ---- rules 1, 2, 5, 11: classes and their fields

    @Override
    public Void visitClass(ClassTree tree, Void v) {
        classes++;
        boolean isInside = element().getEnclosingElement().getKind() != ElementKind.PACKAGE;
        Set<Modifier> flags = tree.getModifiers().getFlags();
        check("1: " + tree.getSimpleName() + " is private, static and final",
            !isInside || flags.equals(Set.of(Modifier.PRIVATE, Modifier.STATIC, Modifier.FINAL)));
        int fields = 0;
        for (Tree member : tree.getMembers()) {
            if (member instanceof VariableTree) {
                fields += isConstant((VariableTree) member) ? 0 : 1;
            }
        }
        check("11: fields of " + tree.getSimpleName(), fields <= MOST_FIELDS);
        return super.visitClass(tree, v);
    }

    private boolean isConstant(VariableTree field) {
        Set<Modifier> flags = field.getModifiers().getFlags();
        if (!flags.contains(Modifier.STATIC)) {
            return false;
        }
        check("5: " + field.getName() + " is a final number", flags.contains(Modifier.FINAL)
            && field.getType().toString().equals("int") && field.getInitializer() != null);
        return true;
    }

    // ---- rules 3, 4, 6, 10: what methods do

    @Override
    public Void visitMethod(MethodTree tree, Void v) {
        methods++;
        check("11: parameters of " + tree.getName(), tree.getParameters().size() <= MOST_PARAMETERS);
        method = nameOf(element());
        inConstructor = tree.getReturnType() == null;
        calls.put(method, new TreeSet<>());
        return super.visitMethod(tree, v);
    }

    private static String nameOf(Element of) {
        String owner = of.getEnclosingElement().toString();
        return owner + "." + of;
    }

    @Override
    public Void visitMethodInvocation(MethodInvocationTree tree, Void v) {
        called(element());
        return super.visitMethodInvocation(tree, v);
    }

    @Override
    public Void visitNewClass(NewClassTree tree, Void v) {
        called(element());
        check("2: an anonymous class in " + method, tree.getClassBody() == null);
        return super.visitNewClass(tree, v);
    }

    private void called(Element of) {
        String name = nameOf(of);
        boolean isOwn = name.startsWith("AbsenceTree");
        check("4: " + name + " in " + method, isOwn || LIBRARY.contains(name));
        if (calls.containsKey(method)) {
            calls.get(method).add(name);
        }
    }

    @Override
    public Void visitThrow(ThrowTree tree, Void v) {
        check("6: a throw in a constructor", !inConstructor);
        check("6: another throw in " + method, tree.getExpression() instanceof NewClassTree);
        check("6: " + method + " may throw", method.equals("AbsenceTree.get(int,int)") || method.equals("AbsenceTree.row(int)"));
        return super.visitThrow(tree, v);
    }

    @Override
    public Void visitBinary(BinaryTree tree, Void v) {
        check("10: a text joined by + in " + method, isNoText(tree.getLeftOperand()) && isNoText(tree.getRightOperand()));
        return super.visitBinary(tree, v);
    }

    @Override
    public Void visitCompoundAssignment(CompoundAssignmentTree tree, Void v) {
        check("10: a text joined by += in " + method, isNoText(tree.getVariable()));
        return super.visitCompoundAssignment(tree, v);
    }

    private boolean isNoText(Tree part) {
        TypeMirror type = trees.getTypeMirror(new TreePath(getCurrentPath(), part));
        return type != null && !type.toString().equals("java.lang.String");
    }

    // ---- rules 8, 11: how deep calls go

    /** How many calls stand open at most from a method on; above DEEPEST where it comes back to itself. */
    private int depthOf(String name, int open) {
        int deepest = 0;
        if (open > DEEPEST || !calls.containsKey(name)) {
            return 1;
        }
        for (String next : calls.get(name)) {
            deepest = Math.max(deepest, depthOf(next, open + 1));
        }
        return deepest + 1;
    }

    private void callsAreFlat() {
        for (String name : calls.keySet()) {
            check("11: calls from " + name + " on go too deep", depthOf(name, 1) <= DEEPEST);
        }
    }

    public static void main(String[] args) throws Exception {
        JavaCompiler compiler = ToolProvider.getSystemJavaCompiler();
        try (StandardJavaFileManager files = compiler.getStandardFileManager(null, null, null)) {
            JavacTask task = (JavacTask) compiler.getTask(null, files, null, null, null,
                files.getJavaFileObjects(new File("src/main/java/AbsenceTree.java")));
            RulesTest rules = new RulesTest(Trees.instance(task));
            Iterable<? extends CompilationUnitTree> units = task.parse();
            task.analyze();
            for (CompilationUnitTree unit : units) {
                check("1: one public class without a package", unit.getPackageName() == null && unit.getTypeDecls().size() == 1);
                rules.scan(unit, null);
            }
            rules.callsAreFlat();
            check("11: " + rules.classes + " classes", rules.classes <= MOST_CLASSES);
            check("only " + rules.methods + " methods were found", rules.methods > 100);
        }
        System.out.println(wrong == 0 ? "RulesTest: the rules are kept" : "RulesTest: " + wrong + " wrong");
        if (wrong != 0) {
            System.exit(1);
        }
    }
}
