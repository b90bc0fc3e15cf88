import com.sun.source.tree.AssertTree;
import com.sun.source.tree.BinaryTree;
import com.sun.source.tree.ClassTree;
import com.sun.source.tree.CompilationUnitTree;
import com.sun.source.tree.CompoundAssignmentTree;
import com.sun.source.tree.ExpressionTree;
import com.sun.source.tree.ImportTree;
import com.sun.source.tree.LambdaExpressionTree;
import com.sun.source.tree.LineMap;
import com.sun.source.tree.MemberReferenceTree;
import com.sun.source.tree.MethodInvocationTree;
import com.sun.source.tree.MethodTree;
import com.sun.source.tree.NewClassTree;
import com.sun.source.tree.PrimitiveTypeTree;
import com.sun.source.tree.SynchronizedTree;
import com.sun.source.tree.ThrowTree;
import com.sun.source.tree.Tree;
import com.sun.source.tree.TryTree;
import com.sun.source.tree.VariableTree;
import com.sun.source.util.JavacTask;
import com.sun.source.util.TreePath;
import com.sun.source.util.TreePathScanner;
import com.sun.source.util.Trees;
import java.io.IOException;
import java.nio.file.Files;
import java.nio.file.Path;
import java.util.ArrayList;
import java.util.HashMap;
import java.util.HashSet;
import java.util.List;
import java.util.Map;
import java.util.Set;
import java.util.TreeSet;
import javax.lang.model.element.Element;
import javax.lang.model.element.ElementKind;
import javax.lang.model.element.ExecutableElement;
import javax.lang.model.element.Modifier;
import javax.lang.model.type.TypeKind;
import javax.lang.model.type.TypeMirror;
import javax.tools.JavaCompiler;
import javax.tools.StandardJavaFileManager;
import javax.tools.ToolProvider;

/** The rules of LANGUAGE.md that can be seen in the source; .ci/run starts it in the project's folder. */
public final class LanguageTest extends TreePathScanner<Void, Void> {
    private static final Path PROGRAM = Path.of("src/main/java/PageInterpreter.java");

    private static final Set<String> FACE = Set.of(
            "append(int)int", "clearBuffer()int", "setStream(int)int", "tokenCount(int)int",
            "setBox(int,int,int,int,int)int", "removeBox(int)int", "define(int,int,int,int)int",
            "removeResource(int,int)int", "resource(int,int)int", "setSize(int,int)int", "setBudget(int)int",
            "undo()int", "run()int", "result(int)int", "operand(int,int)int", "matrix(int,int)int",
            "trace(int,int)int", "cell(int,int)int", "countColor(int)int", "itemAt(int,int)int", "item(int,int)int",
            "point(int,int,int)int", "bound(int,int)int", "doubleArea(int)long");

    /** What the program uses of the library; all of it stands in rule 4 or, values(), in rule 12. */
    private static final Set<String> LIBRARY = Set.of(
            "java.lang.String.length", "java.lang.String.charAt", "java.lang.Math.floorDiv", "java.lang.Math.max",
            "java.lang.Math.min", "java.lang.System.arraycopy", "java.util.Arrays.copyOf");

    private final Trees trees;
    private final CompilationUnitTree unit;
    private final Map<String, Set<String>> calls = new HashMap<>();
    private final Set<String> face = new TreeSet<>();
    private final Set<String> privateNames = new TreeSet<>();
    private int classes;

    private LanguageTest(Trees trees, CompilationUnitTree unit) {
        this.trees = trees;
        this.unit = unit;
    }

    public static void main(String[] args) throws IOException {
        String source = Files.readString(PROGRAM);
        Check.due("signs above 126", 0, source.chars().filter(c -> c > 126).count());
        JavaCompiler compiler = ToolProvider.getSystemJavaCompiler();
        try (StandardJavaFileManager files = compiler.getStandardFileManager(null, null, null)) {
            JavacTask task = (JavacTask) compiler.getTask(null, files, null, List.of("-proc:none"), null,
                    files.getJavaFileObjects(PROGRAM));
            CompilationUnitTree unit = task.parse().iterator().next();
            task.analyze();
            LanguageTest test = new LanguageTest(Trees.instance(task), unit);
            test.scan(unit, null);
            test.end();
        }
        Check.end("LanguageTest");
    }

    private void end() {
        Check.due("package line", 1, unit.getPackageName() == null ? 1 : 0);
        Check.due("classes", 1, classes <= 12 ? 1 : 0);
        Check.due("the face " + face, 1, face.equals(FACE) ? 1 : 0);
        for (String name : privateNames) {
            Check.due("private method " + name + " named as a public one", 0,
                    FACE.stream().filter(f -> f.startsWith(name + "(")).count());
        }
        for (String method : calls.keySet()) {
            int depth = depth(method, new ArrayList<>());
            Check.due("calls below " + method + ": " + depth, 1, depth <= 8 ? 1 : 0);
        }
    }

    /** The methods that may stand open at once, from this one on; a recursion would not be allowed. */
    private int depth(String method, List<String> above) {
        Check.due("recursion of " + method, 0, above.contains(method) ? 1 : 0);
        if (above.contains(method) || above.size() > 50) {
            return 1000;
        }
        above.add(method);
        int deepest = 0;
        for (String called : calls.getOrDefault(method, Set.of())) {
            deepest = Math.max(deepest, depth(called, above));
        }
        above.remove(above.size() - 1);
        return deepest + 1;
    }

    private void forbidden(Tree tree) {
        Check.due("line " + line(tree) + ": " + tree.getKind(), 0, 1);
    }

    private long line(Tree tree) {
        return unit.getLineMap().getLineNumber(trees.getSourcePositions().getStartPosition(unit, tree));
    }

    private long lines(Tree tree) {
        LineMap map = unit.getLineMap();
        return map.getLineNumber(trees.getSourcePositions().getEndPosition(unit, tree)) - line(tree) + 1;
    }

    @Override
    public Void visitImport(ImportTree tree, Void none) {
        Check.due("import " + tree, 1, tree.toString().trim().equals("import java.util.Arrays;") ? 1 : 0);
        return super.visitImport(tree, none);
    }

    @Override
    public Void visitClass(ClassTree tree, Void none) {
        classes++;
        Set<Modifier> flags = tree.getModifiers().getFlags();
        boolean top = getCurrentPath().getParentPath().getLeaf() instanceof CompilationUnitTree;
        boolean inClass = top || getCurrentPath().getParentPath().getLeaf() instanceof ClassTree;
        Check.due("local class " + tree.getSimpleName(), 1, inClass ? 1 : 0);
        boolean fixed = flags.contains(Modifier.STATIC) || tree.getKind() == Tree.Kind.ENUM;
        boolean visible = flags.contains(Modifier.PUBLIC) || flags.contains(Modifier.PROTECTED);
        Check.due("class " + tree.getSimpleName(), 1, top ? (flags.contains(Modifier.FINAL) && visible ? 1 : 0)
                : fixed && !visible ? 1 : 0);
        int fields = 0;
        for (Tree member : tree.getMembers()) {
            if (member instanceof VariableTree field && !field.getModifiers().getFlags().contains(Modifier.STATIC)) {
                fields++;
            }
            Check.due("initialiser block at line " + line(member), 0, member.getKind() == Tree.Kind.BLOCK ? 1 : 0);
        }
        Check.due("fields of " + tree.getSimpleName() + ": " + fields, 1, fields <= 20 ? 1 : 0);
        return super.visitClass(tree, none);
    }

    private boolean isIn(TreePath path, String name) {
        return path.getParentPath().getLeaf() instanceof ClassTree c && c.getSimpleName().contentEquals(name);
    }

    @Override
    public Void visitVariable(VariableTree tree, Void none) {
        Element element = trees.getElement(getCurrentPath());
        Set<Modifier> flags = tree.getModifiers().getFlags();
        if (element.getKind() == ElementKind.FIELD) {
            boolean constant = flags.contains(Modifier.PUBLIC) && flags.contains(Modifier.STATIC);
            if (isIn(getCurrentPath(), "PageInterpreter")) {
                Check.due("field " + tree.getName(), 1, constant || flags.contains(Modifier.PRIVATE) ? 1 : 0);
            }
            if (flags.contains(Modifier.STATIC)) {
                String type = element.asType().toString();
                boolean plain = Set.of("int", "long", "boolean", "char", "java.lang.String").contains(type);
                boolean values = tree.getInitializer().toString().endsWith(".values()") && flags.contains(Modifier.PRIVATE);
                Check.due("static field " + tree.getName(), 1, flags.contains(Modifier.FINAL) && (plain || values) ? 1 : 0);
            }
        }
        type(element.asType(), tree);
        return super.visitVariable(tree, none);
    }

    /** Of the types, the program needs int, long, boolean, String, its own classes and rows of these. */
    private void type(TypeMirror type, Tree tree) {
        String name = type.toString().replace("[]", "");
        boolean own = name.startsWith("PageInterpreter");
        boolean known = Set.of("int", "long", "boolean", "void", "java.lang.String").contains(name) || own;
        boolean flat = !type.toString().contains("[][]");
        Check.due("type " + type + " in line " + line(tree), 1, known && flat ? 1 : 0);
    }

    @Override
    public Void visitMethod(MethodTree tree, Void none) {
        ExecutableElement element = (ExecutableElement) trees.getElement(getCurrentPath());
        calls.putIfAbsent(key(element), new HashSet<>());
        Check.due("parameters of " + tree.getName(), 1, tree.getParameters().size() <= 7 ? 1 : 0);
        Check.due("lines of " + tree.getName() + ": " + lines(tree), 1, lines(tree) <= 60 ? 1 : 0);
        Set<Modifier> flags = tree.getModifiers().getFlags();
        boolean constructor = element.getKind() == ElementKind.CONSTRUCTOR;
        if (!constructor) {
            type(element.getReturnType(), tree);
        }
        if (flags.contains(Modifier.PRIVATE)) {
            privateNames.add(tree.getName().toString());
        } else if (isIn(getCurrentPath(), "PageInterpreter")) {
            Check.due("visible " + tree.getName(), 1, flags.equals(Set.of(Modifier.PUBLIC)) ? 1 : 0);
            if (constructor) {
                Check.due("parameters of the constructor", 0, tree.getParameters().size());
            } else {
                face.add(element + "" + element.getReturnType());
            }
        }
        return super.visitMethod(tree, none);
    }

    private static String key(Element element) {
        return element.getEnclosingElement() + "." + element;
    }

    @Override
    public Void visitMethodInvocation(MethodInvocationTree tree, Void none) {
        Element called = trees.getElement(new TreePath(getCurrentPath(), tree.getMethodSelect()));
        String owner = called.getEnclosingElement().toString();
        boolean values = called.getSimpleName().contentEquals("values");
        boolean superCall = called.getKind() == ElementKind.CONSTRUCTOR;
        if (owner.startsWith("PageInterpreter")) {
            called(called);
            Check.due("rule 12: own method in a constructor, line " + line(tree), 0, isMaking() && !values ? 1 : 0);
        } else if (!superCall) {
            String name = owner + "." + called.getSimpleName();
            Check.due("library: " + name, 1, LIBRARY.contains(name) ? 1 : 0);
        }
        if (values) {
            Check.due("values() outside of a static field", 1,
                    getCurrentPath().getParentPath().getLeaf() instanceof VariableTree ? 1 : 0);
        }
        return super.visitMethodInvocation(tree, none);
    }

    private void called(Element called) {
        for (TreePath path = getCurrentPath(); path != null; path = path.getParentPath()) {
            if (path.getLeaf() instanceof MethodTree) {
                calls.computeIfAbsent(key(trees.getElement(path)), k -> new HashSet<>()).add(key(called));
                return;
            }
        }
    }

    @Override
    public Void visitNewClass(NewClassTree tree, Void none) {
        Check.due("anonymous class in line " + line(tree), 1, tree.getClassBody() == null ? 1 : 0);
        Element constructor = trees.getElement(getCurrentPath());
        Check.due("new of the library in line " + line(tree), 1,
                constructor.getEnclosingElement().toString().startsWith("PageInterpreter") ? 1 : 0);
        called(constructor);
        for (ExpressionTree argument : tree.getArguments()) {
            Check.due("rule 12: a constructor hands out " + argument + ", line " + line(tree), 0,
                    isMaking() && isPartOfObject(argument) ? 1 : 0);
        }
        return super.visitNewClass(tree, none);
    }

    /** Whether the present place is one of a constructor or of a field's initialiser. */
    private boolean isMaking() {
        for (TreePath path = getCurrentPath(); path != null; path = path.getParentPath()) {
            if (path.getLeaf() instanceof MethodTree method) {
                return method.getReturnType() == null;
            }
        }
        return true;
    }

    /** Whether an expression is an object or a row that a field of the present object holds, or the object itself. */
    private boolean isPartOfObject(Tree expression) {
        TreePath path = new TreePath(getCurrentPath(), expression);
        Element element = trees.getElement(path);
        boolean inObject = element != null && (element.getKind() == ElementKind.FIELD
                && !element.getModifiers().contains(Modifier.STATIC) || element.getSimpleName().contentEquals("this"));
        return inObject && !trees.getTypeMirror(path).getKind().isPrimitive();
    }

    @Override
    public Void visitBinary(BinaryTree tree, Void none) {
        Check.due("text joined or compared in line " + line(tree), 0, isText(tree.getLeftOperand())
                || isText(tree.getRightOperand()) ? 1 : 0);
        return super.visitBinary(tree, none);
    }

    @Override
    public Void visitCompoundAssignment(CompoundAssignmentTree tree, Void none) {
        Check.due("text joined in line " + line(tree), 0, isText(tree.getExpression()) ? 1 : 0);
        return super.visitCompoundAssignment(tree, none);
    }

    private boolean isText(Tree tree) {
        TypeMirror type = trees.getTypeMirror(new TreePath(getCurrentPath(), tree));
        return type != null && type.toString().equals("java.lang.String");
    }

    @Override
    public Void visitPrimitiveType(PrimitiveTypeTree tree, Void none) {
        TypeKind kind = tree.getPrimitiveTypeKind();
        Check.due("type in line " + line(tree), 0, kind == TypeKind.DOUBLE || kind == TypeKind.FLOAT ? 1 : 0);
        return super.visitPrimitiveType(tree, none);
    }

    @Override
    public Void visitThrow(ThrowTree tree, Void none) {
        forbidden(tree);
        return super.visitThrow(tree, none);
    }

    @Override
    public Void visitTry(TryTree tree, Void none) {
        forbidden(tree);
        return super.visitTry(tree, none);
    }

    @Override
    public Void visitSynchronized(SynchronizedTree tree, Void none) {
        forbidden(tree);
        return super.visitSynchronized(tree, none);
    }

    @Override
    public Void visitAssert(AssertTree tree, Void none) {
        forbidden(tree);
        return super.visitAssert(tree, none);
    }

    @Override
    public Void visitLambdaExpression(LambdaExpressionTree tree, Void none) {
        forbidden(tree);
        return super.visitLambdaExpression(tree, none);
    }

    @Override
    public Void visitMemberReference(MemberReferenceTree tree, Void none) {
        forbidden(tree);
        return super.visitMemberReference(tree, none);
    }
}
