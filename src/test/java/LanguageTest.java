import com.sun.source.tree.AssertTree;
import com.sun.source.tree.BinaryTree;
import com.sun.source.tree.ClassTree;
import com.sun.source.tree.CompilationUnitTree;
import com.sun.source.tree.CompoundAssignmentTree;
import com.sun.source.tree.ImportTree;
import com.sun.source.tree.LambdaExpressionTree;
import com.sun.source.tree.MemberReferenceTree;
import com.sun.source.tree.MethodInvocationTree;
import com.sun.source.tree.MethodTree;
import com.sun.source.tree.NewArrayTree;
import com.sun.source.tree.NewClassTree;
import com.sun.source.tree.SynchronizedTree;
import com.sun.source.tree.ThrowTree;
import com.sun.source.tree.Tree;
import com.sun.source.tree.TryTree;
import com.sun.source.tree.VariableTree;
import com.sun.source.util.JavacTask;
import com.sun.source.util.TreePath;
import com.sun.source.util.TreePathScanner;
import com.sun.source.util.Trees;
import java.io.IOException;
import java.nio.file.Files;
import java.nio.file.Path;
import java.util.LinkedHashMap;
import java.util.LinkedHashSet;
import java.util.Map;
import java.util.Set;
import javax.lang.model.element.Element;
import javax.lang.model.element.ExecutableElement;
import javax.lang.model.element.Modifier;
import javax.lang.model.type.TypeMirror;
import javax.tools.JavaCompiler;
import javax.tools.StandardJavaFileManager;
import javax.tools.ToolProvider;

/** The source keeps to those rules of LANGUAGE.md that can be seen from its tree; the class is held to them more narrowly where it can be. */
public final class LanguageTest extends TreePathScanner<Void, Void> {
    private static final Path SOURCE = Path.of("src/main/java/SecondPaper.java");

    /** What of rule 4's library the class uses; one more that the rule allows may be put here. */
    private static final Set<String> LIBRARY = Set.of("java.lang.Math.max", "java.lang.Math.min", "java.lang.Integer.bitCount",
        "java.lang.String.length", "java.lang.String.charAt");

    private final Trees trees;
    private final CompilationUnitTree unit;
    private final Set<String> face = new LinkedHashSet<>();
    private final Map<String, Set<String>> calls = new LinkedHashMap<>();
    private String method = "";
    private boolean inConstructor = false;
    private int classes = 0;
    private int wrong = 0;

    private LanguageTest(Trees trees, CompilationUnitTree unit) {
        this.trees = trees;
        this.unit = unit;
    }

    public static void main(String[] args) throws IOException {
        JavaCompiler compiler = ToolProvider.getSystemJavaCompiler();
        try (StandardJavaFileManager files = compiler.getStandardFileManager(null, null, null)) {
            JavacTask task = (JavacTask) compiler.getTask(null, files, null, null, null, files.getJavaFileObjects(SOURCE));
            CompilationUnitTree unit = task.parse().iterator().next();
            task.analyze();
            LanguageTest test = new LanguageTest(Trees.instance(task), unit);
            test.look();
            System.out.println(test.wrong == 0 ? "the source is as due" : test.wrong + " things in the source are not as due");
            if (test.wrong != 0) {
                System.exit(1);
            }
        }
    }

    private void look() throws IOException {
        for (Tree member : ((ClassTree) unit.getTypeDecls().get(0)).getMembers()) {
            // Every constructor has the same name in the tree.
            if (member instanceof MethodTree m && m.getModifiers().getFlags().contains(Modifier.PUBLIC)
                && m.getReturnType() != null) {
                face.add(m.getName().toString());
            }
        }
        scan(unit, null);
        if (unit.getTypeDecls().size() != 1 || unit.getPackageName() != null) {
            complain(1, unit, "one class without a package");
        }
        if (classes > 12) {
            complain(11, unit, classes + " classes");
        }
        if (!Files.readString(SOURCE).chars().allMatch(c -> c == '\n' || c >= 32 && c < 127)) {
            complain(4, unit, "a sign beyond 32 to 126");
        }
        for (String from : calls.keySet()) {
            if (depth(from, new LinkedHashSet<>()) > 8) {
                complain(11, unit, from + " goes more than eight deep");
            }
        }
    }

    /** The longest chain of calls that are no recursion, this one counted. */
    private int depth(String from, Set<String> open) {
        if (!calls.containsKey(from) || !open.add(from)) {
            return 0;
        }
        int deepest = 0;
        for (String to : calls.get(from)) {
            deepest = Math.max(deepest, depth(to, open));
        }
        open.remove(from);
        return deepest + 1;
    }

    private void complain(int rule, Tree at, String what) {
        wrong++;
        long line = unit.getLineMap().getLineNumber(trees.getSourcePositions().getStartPosition(unit, at));
        System.out.println("rule " + rule + ", line " + line + ": " + what);
    }

    private long linesOf(Tree tree) {
        long from = unit.getLineMap().getLineNumber(trees.getSourcePositions().getStartPosition(unit, tree));
        return unit.getLineMap().getLineNumber(trees.getSourcePositions().getEndPosition(unit, tree)) - from + 1;
    }

    private Element elementOf(Tree tree) {
        return trees.getElement(TreePath.getPath(unit, tree));
    }

    private boolean isText(Tree tree) {
        TypeMirror type = trees.getTypeMirror(TreePath.getPath(unit, tree));
        return type != null && type.toString().equals("java.lang.String");
    }

    @Override
    public Void visitImport(ImportTree tree, Void nothing) {
        if (!tree.getQualifiedIdentifier().toString().equals("java.util.NoSuchElementException")) {
            complain(4, tree, "import of " + tree.getQualifiedIdentifier());
        }
        return null;
    }

    @Override
    public Void visitClass(ClassTree tree, Void nothing) {
        classes++;
        int fields = 0;
        for (Tree member : tree.getMembers()) {
            if (member instanceof VariableTree field) {
                Set<Modifier> flags = field.getModifiers().getFlags();
                boolean ofClass = flags.contains(Modifier.STATIC);
                fields += ofClass ? 0 : 1;
                if (ofClass && !(flags.contains(Modifier.FINAL) && field.getType().toString().matches("int|long|boolean|char|String"))) {
                    complain(5, field, "static " + field.getName());
                }
            }
            if (member.getKind() == Tree.Kind.BLOCK) {
                complain(5, member, "an initialiser block");
            }
        }
        if (fields > 20) {
            complain(11, tree, fields + " fields");
        }
        return super.visitClass(tree, nothing);
    }

    @Override
    public Void visitMethod(MethodTree tree, Void nothing) {
        ExecutableElement element = (ExecutableElement) elementOf(tree);
        String name = tree.getName().toString();
        if (!tree.getModifiers().getFlags().contains(Modifier.PUBLIC) && face.contains(name)) {
            complain(1, tree, name + " bears the name of a call of the face");
        }
        if (Set.of("equals", "hashCode", "toString").contains(name)) {
            complain(6, tree, name);
        }
        if (tree.getParameters().size() > 7 || linesOf(tree) > 60) {
            complain(11, tree, name + " has " + tree.getParameters().size() + " parameters, " + linesOf(tree) + " lines");
        }
        method = nameOf(element);
        inConstructor = name.equals("<init>");
        calls.putIfAbsent(method, new LinkedHashSet<>());
        super.visitMethod(tree, nothing);
        method = "";
        inConstructor = false;
        return null;
    }

    private static String nameOf(Element element) {
        return element.getEnclosingElement() + "." + element;
    }

    @Override
    public Void visitMethodInvocation(MethodInvocationTree tree, Void nothing) {
        Element called = elementOf(tree);
        String owner = called.getEnclosingElement().toString();
        if (owner.startsWith("SecondPaper")) {
            calls.getOrDefault(method, new LinkedHashSet<>()).add(nameOf(called));
        } else if (!LIBRARY.contains(owner + "." + called.getSimpleName()) && !called.getSimpleName().contentEquals("<init>")) {
            complain(4, tree, owner + "." + called);
        }
        return super.visitMethodInvocation(tree, nothing);
    }

    @Override
    public Void visitThrow(ThrowTree tree, Void nothing) {
        boolean due = method.equals("SecondPaper.led(int)") && tree.getExpression() instanceof NewClassTree made
            && made.getIdentifier().toString().equals("NoSuchElementException");
        if (!due) {
            complain(6, tree, "only led throws, and only NoSuchElementException");
        }
        return super.visitThrow(tree, nothing);
    }

    @Override
    public Void visitNewClass(NewClassTree tree, Void nothing) {
        if (!method.isEmpty() && !inConstructor && !method.equals("SecondPaper.led(int)")) {
            complain(12, tree, "an object made by a call");
        }
        return super.visitNewClass(tree, nothing);
    }

    @Override
    public Void visitNewArray(NewArrayTree tree, Void nothing) {
        if (!method.isEmpty() && !inConstructor) {
            complain(12, tree, "an array made by a call");
        }
        return super.visitNewArray(tree, nothing);
    }

    @Override
    public Void visitBinary(BinaryTree tree, Void nothing) {
        boolean texts = isText(tree.getLeftOperand()) || isText(tree.getRightOperand());
        if (texts) {
            complain(10, tree, "texts joined or compared by a sign");
        }
        return super.visitBinary(tree, nothing);
    }

    @Override
    public Void visitCompoundAssignment(CompoundAssignmentTree tree, Void nothing) {
        if (isText(tree.getVariable())) {
            complain(10, tree, "texts joined by +=");
        }
        return super.visitCompoundAssignment(tree, nothing);
    }

    @Override
    public Void visitLambdaExpression(LambdaExpressionTree tree, Void nothing) {
        complain(2, tree, "a lambda");
        return null;
    }

    @Override
    public Void visitMemberReference(MemberReferenceTree tree, Void nothing) {
        complain(2, tree, "a method reference");
        return null;
    }

    @Override
    public Void visitTry(TryTree tree, Void nothing) {
        complain(6, tree, "nothing is caught, as nothing is thrown but to the caller");
        return null;
    }

    @Override
    public Void visitSynchronized(SynchronizedTree tree, Void nothing) {
        complain(6, tree, "synchronized");
        return null;
    }

    @Override
    public Void visitAssert(AssertTree tree, Void nothing) {
        complain(6, tree, "assert");
        return null;
    }
}
