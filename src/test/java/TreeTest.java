import com.sun.source.tree.BinaryTree;
import com.sun.source.tree.ClassTree;
import com.sun.source.tree.CompilationUnitTree;
import com.sun.source.tree.LambdaExpressionTree;
import com.sun.source.tree.MemberReferenceTree;
import com.sun.source.tree.MethodInvocationTree;
import com.sun.source.tree.MethodTree;
import com.sun.source.tree.NewClassTree;
import com.sun.source.tree.ThrowTree;
import com.sun.source.tree.Tree;
import com.sun.source.tree.VariableTree;
import com.sun.source.util.JavacTask;
import com.sun.source.util.TreePathScanner;
import com.sun.source.util.Trees;
import java.nio.file.Path;
import java.util.HashMap;
import java.util.HashSet;
import java.util.List;
import java.util.Map;
import java.util.Set;
import java.util.TreeSet;
import javax.lang.model.element.Element;
import javax.lang.model.element.ElementKind;
import javax.lang.model.element.Modifier;
import javax.lang.model.type.TypeMirror;
import javax.tools.JavaCompiler;
import javax.tools.JavaFileObject;
import javax.tools.StandardJavaFileManager;
import javax.tools.ToolProvider;

/** What the compiler knows of the class, of the rules in ../shared/LANGUAGE.md: what it calls, makes and declares. */
public final class TreeTest extends TreePathScanner<Void, Void> {
    private static final Path SOURCE = Path.of("src/main/java/SheetVault.java");
    private static final int MOST_DEEP = 8;
    private static final int MOST_CLASSES = 12;
    private static final int MOST_FIELDS = 20;
    /** Rule 4, as far as the class uses it: the class, and the method. */
    private static final Set<String> LIBRARY = Set.of("Math.max", "Math.min", "Math.abs", "Integer.bitCount",
            "String.length", "String.charAt", "String.isEmpty", "String.equals", "String.substring",
            "StringBuilder.append", "StringBuilder.toString", "StringBuilder.length", "ArrayList.add", "ArrayList.get",
            "ArrayList.set", "ArrayList.remove", "ArrayList.size", "ArrayList.isEmpty", "ArrayList.clear",
            "System.arraycopy", "Arrays.copyOf", "Arrays.copyOfRange", "Arrays.fill", "Object.clone");

    private final Checks checks = new Checks();
    private final Trees trees;
    private final Map<Element, Set<Element>> calls = new HashMap<>();
    private final Set<Element> face = new HashSet<>();
    private Element method = null;
    private int classes = 0;

    private TreeTest(Trees trees) {
        this.trees = trees;
    }

    public static void main(String[] args) throws Exception {
        JavaCompiler compiler = ToolProvider.getSystemJavaCompiler();
        try (StandardJavaFileManager files = compiler.getStandardFileManager(null, null, null)) {
            Iterable<? extends JavaFileObject> sources = files.getJavaFileObjects(SOURCE);
            List<String> options = List.of("-proc:none");
            JavacTask task = (JavacTask) compiler.getTask(null, files, null, options, null, sources);
            Iterable<? extends CompilationUnitTree> units = task.parse();
            task.analyze();
            TreeTest test = new TreeTest(Trees.instance(task));
            test.scan(units, null);
            test.lookAtTheWhole();
            Rows.end(test.checks);
        }
    }

    private void lookAtTheWhole() {
        checks.holds("classes: " + classes, classes >= 1 && classes <= MOST_CLASSES);
        checks.is("methods of the face", face.size(), 35);
        for (Element its : face) {
            int deep = depth(its, new HashSet<>());
            checks.holds("calls go " + deep + " deep from " + its, deep <= MOST_DEEP);
        }
    }

    /** How many methods stand open at once at most, this one counted. */
    private int depth(Element its, Set<Element> open) {
        checks.holds("a recursion through " + its, open.add(its));
        int deepest = 0;
        for (Element called : calls.getOrDefault(its, Set.of())) {
            if (!open.contains(called)) {
                deepest = Math.max(deepest, depth(called, open));
            } else {
                checks.holds("a recursion from " + its + " to " + called, false);
            }
        }
        open.remove(its);
        return deepest + 1;
    }

    private Element element() {
        return trees.getElement(getCurrentPath());
    }

    private static boolean isOwn(Element element) {
        Element outer = element;
        while (outer.getKind() != ElementKind.PACKAGE && !outer.getSimpleName().contentEquals("SheetVault")) {
            outer = outer.getEnclosingElement();
        }
        return outer.getKind() != ElementKind.PACKAGE;
    }

    @Override
    public Void visitClass(ClassTree tree, Void none) {
        classes++;
        Element its = element();
        boolean isInside = its.getEnclosingElement().getKind() != ElementKind.PACKAGE;
        checks.holds("a class inside is static: " + its, !isInside || its.getModifiers().contains(Modifier.STATIC));
        int fields = 0;
        for (Element member : its.getEnclosedElements()) {
            boolean isField = member.getKind() == ElementKind.FIELD;
            fields += isField && !member.getModifiers().contains(Modifier.STATIC) ? 1 : 0;
        }
        checks.holds("fields of " + its + ": " + fields, fields <= MOST_FIELDS);
        for (Tree member : tree.getMembers()) {
            checks.holds("a block that initialises: " + its, member.getKind() != Tree.Kind.BLOCK);
        }
        return super.visitClass(tree, none);
    }

    @Override
    public Void visitMethod(MethodTree tree, Void none) {
        method = element();
        boolean isPublic = method.getModifiers().contains(Modifier.PUBLIC);
        if (isPublic && method.getKind() == ElementKind.METHOD) {
            face.add(method);
        }
        super.visitMethod(tree, none);
        method = null;
        return null;
    }

    @Override
    public Void visitVariable(VariableTree tree, Void none) {
        Element its = element();
        TypeMirror type = its.asType();
        boolean isField = its.getKind() == ElementKind.FIELD;
        boolean isStatic = isField && its.getModifiers().contains(Modifier.STATIC);
        if (isStatic) {
            checks.holds("a static field is final: " + its, its.getModifiers().contains(Modifier.FINAL));
            checks.holds("a constant is of a plain type: " + its, type.getKind().isPrimitive()
                    || Set.of("java.lang.String", "int[]", "long[]", "char[]", "byte[]").contains(type.toString()));
        }
        // Of two dimensions there are numbers alone.
        checks.holds("rows of rows: " + its, !type.toString().endsWith("[][]")
                || Set.of("int[][]", "long[][]", "boolean[][]").contains(type.toString()));
        checks.holds("more than two dimensions: " + its, !type.toString().contains("[][][]"));
        return super.visitVariable(tree, none);
    }

    @Override
    public Void visitMethodInvocation(MethodInvocationTree tree, Void none) {
        Element called = element();
        if (isOwn(called) && called.getKind() == ElementKind.METHOD) {
            calls.computeIfAbsent(method, its -> new HashSet<>()).add(called);
            checks.holds("a constructor calls " + called, method == null || method.getKind() == ElementKind.METHOD);
        } else if (called.getKind() == ElementKind.METHOD) {
            String name = called.getEnclosingElement().getSimpleName() + "." + called.getSimpleName();
            checks.holds("it calls " + name, LIBRARY.contains(name));
        }
        return super.visitMethodInvocation(tree, none);
    }

    @Override
    public Void visitNewClass(NewClassTree tree, Void none) {
        Element made = element();
        boolean isThrown = getCurrentPath().getParentPath().getLeaf() instanceof ThrowTree;
        String name = made.getEnclosingElement().getSimpleName().toString();
        boolean isKnown = isOwn(made) || Set.of("StringBuilder", "String", "ArrayList").contains(name);
        checks.holds("it makes " + name, isKnown || isThrown && name.endsWith("Exception"));
        checks.holds("it makes an object with a body of its own", tree.getClassBody() == null || isOwn(made));
        return super.visitNewClass(tree, none);
    }

    @Override
    public Void visitThrow(ThrowTree tree, Void none) {
        checks.holds("a constructor throws", method != null && method.getKind() == ElementKind.METHOD);
        return super.visitThrow(tree, none);
    }

    @Override
    public Void visitBinary(BinaryTree tree, Void none) {
        TypeMirror type = trees.getTypeMirror(getCurrentPath());
        checks.holds("texts are joined by +", !type.toString().equals("java.lang.String"));
        Set<String> sides = new TreeSet<>();
        for (Tree side : List.of(tree.getLeftOperand(), tree.getRightOperand())) {
            sides.add(String.valueOf(trees.getTypeMirror(trees.getPath(getCurrentPath().getCompilationUnit(), side))));
        }
        boolean compares = tree.getKind() == Tree.Kind.EQUAL_TO || tree.getKind() == Tree.Kind.NOT_EQUAL_TO;
        boolean texts = sides.contains("java.lang.String") || sides.contains("java.lang.Integer");
        checks.holds("texts or Integers by == or !=: " + tree, !compares || !texts || sides.contains("<nulltype>"));
        return super.visitBinary(tree, none);
    }

    @Override
    public Void visitLambdaExpression(LambdaExpressionTree tree, Void none) {
        checks.holds("a lambda: " + tree, false);
        return super.visitLambdaExpression(tree, none);
    }

    @Override
    public Void visitMemberReference(MemberReferenceTree tree, Void none) {
        checks.holds("a method reference: " + tree, false);
        return super.visitMemberReference(tree, none);
    }
}
