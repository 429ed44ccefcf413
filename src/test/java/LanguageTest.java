import com.sun.source.tree.AssertTree;
import com.sun.source.tree.BinaryTree;
import com.sun.source.tree.BlockTree;
import com.sun.source.tree.ClassTree;
import com.sun.source.tree.CompilationUnitTree;
import com.sun.source.tree.DoWhileLoopTree;
import com.sun.source.tree.ExpressionTree;
import com.sun.source.tree.ForLoopTree;
import com.sun.source.tree.ImportTree;
import com.sun.source.tree.LambdaExpressionTree;
import com.sun.source.tree.MemberReferenceTree;
import com.sun.source.tree.MethodInvocationTree;
import com.sun.source.tree.MethodTree;
import com.sun.source.tree.NewClassTree;
import com.sun.source.tree.SynchronizedTree;
import com.sun.source.tree.ThrowTree;
import com.sun.source.tree.Tree;
import com.sun.source.tree.TryTree;
import com.sun.source.tree.TypeCastTree;
import com.sun.source.tree.VariableTree;
import com.sun.source.tree.WhileLoopTree;
import com.sun.source.util.JavacTask;
import com.sun.source.util.TreePath;
import com.sun.source.util.TreePathScanner;
import com.sun.source.util.Trees;
import java.nio.charset.StandardCharsets;
import java.nio.file.Files;
import java.nio.file.Path;
import java.util.HashMap;
import java.util.List;
import java.util.Map;
import java.util.Set;
import java.util.TreeSet;
import javax.lang.model.element.Element;
import javax.lang.model.element.ElementKind;
import javax.lang.model.element.ExecutableElement;
import javax.lang.model.element.Modifier;
import javax.lang.model.element.NestingKind;
import javax.lang.model.element.TypeElement;
import javax.lang.model.type.ArrayType;
import javax.lang.model.type.TypeKind;
import javax.lang.model.type.TypeMirror;
import javax.tools.JavaCompiler;
import javax.tools.StandardJavaFileManager;
import javax.tools.ToolProvider;

/** The rules of LANGUAGE.md that can be seen from the source, by the compiler's own tree of it. */
public final class LanguageTest extends TreePathScanner<Void, Void> {
    private static final Path SOURCE = Path.of("src/main/java/DayCords.java");
    private static final int MOST_PARAMETERS = 7;
    private static final int MOST_LINES = 60;
    private static final int MOST_DEPTH = 8;
    private static final int MOST_CLASSES = 12;
    private static final int MOST_FIELDS = 20;
    private static final Set<String> IMPORTS = Set.of("java.util.Arrays", "java.util.ArrayList", "java.util.List", "java.util.Iterator");
    private static final Set<String> TEXTS = Set.of("java.lang.String", "java.lang.StringBuilder");
    private static final Set<String> LIBRARY = Set.of("System.arraycopy", "Arrays.copyOf", "Arrays.copyOfRange", "Arrays.fill", "Object.clone",
        "String.length", "String.charAt", "String.isEmpty", "String.equals", "String.indexOf", "String.substring", "String.toCharArray",
        "StringBuilder.append", "StringBuilder.charAt", "StringBuilder.setCharAt", "StringBuilder.setLength", "StringBuilder.deleteCharAt",
        "StringBuilder.reverse", "StringBuilder.length", "StringBuilder.toString");

    private final Due due = new Due();
    private final Trees trees;
    private final CompilationUnitTree unit;
    private final Set<String> publicNames = new TreeSet<>();
    private final Map<ExecutableElement, Set<ExecutableElement>> calls = new HashMap<>();
    private ExecutableElement method = null;
    private int classes = 0;

    private LanguageTest(Trees trees, CompilationUnitTree unit) {
        this.trees = trees;
        this.unit = unit;
    }

    public static void main(String[] args) throws Exception {
        JavaCompiler compiler = ToolProvider.getSystemJavaCompiler();
        try (StandardJavaFileManager files = compiler.getStandardFileManager(null, null, StandardCharsets.US_ASCII)) {
            JavacTask task = (JavacTask) compiler.getTask(null, files, null, List.of("-proc:none"), null, files.getJavaFileObjects(SOURCE));
            CompilationUnitTree unit = task.parse().iterator().next();
            task.analyze();
            new LanguageTest(Trees.instance(task), unit).judge();
        }
    }

    private void judge() throws Exception {
        rule(0, "the source's signs are 1 to 127", Files.readString(SOURCE, StandardCharsets.ISO_8859_1).chars().allMatch(c -> c > 0 && c < 128));
        rule(0, "no package line", unit.getPackageName() == null);
        rule(1, "one class in the file", unit.getTypeDecls().size() == 1);
        Element whole = trees.getElement(new TreePath(new TreePath(unit), unit.getTypeDecls().get(0)));
        rule(1, "public and final", whole.getModifiers().containsAll(Set.of(Modifier.PUBLIC, Modifier.FINAL)));
        for (Element member : whole.getEnclosedElements()) {
            if (member.getModifiers().contains(Modifier.PUBLIC)) {
                publicNames.add(member.getSimpleName().toString());
            }
        }
        scan(new TreePath(unit), null);
        rule(11, "at most twelve classes: " + classes, classes <= MOST_CLASSES);
        for (ExecutableElement from : calls.keySet()) {
            int depth = depth(from, 1);
            rule(11, from + " goes at most eight deep: " + depth, depth <= MOST_DEPTH);
        }
        due.end();
    }

    private void rule(int number, String what, boolean holds) {
        due.is("rule " + number + ": " + what, holds ? 1 : 0, 1);
    }

    private void never(int number, Tree tree) {
        String line = "line " + unit.getLineMap().getLineNumber(trees.getSourcePositions().getStartPosition(unit, tree));
        rule(number, line + ", " + tree, false);
    }

    private Element element(Tree tree) {
        return trees.getElement(new TreePath(getCurrentPath(), tree));
    }

    private TypeMirror type(Tree tree) {
        return trees.getTypeMirror(new TreePath(getCurrentPath(), tree));
    }

    /** A method may call itself (rule 8, private and static); a longer ring of calls shows as a great depth. */
    private int depth(ExecutableElement from, int deep) {
        int most = deep;
        for (ExecutableElement to : calls.getOrDefault(from, Set.of())) {
            if (to != from && deep <= MOST_DEPTH) {
                most = Math.max(most, depth(to, deep + 1));
            }
        }
        return most;
    }

    @Override
    public Void visitImport(ImportTree tree, Void none) {
        rule(4, tree.toString().trim(), !tree.isStatic() && IMPORTS.contains(tree.getQualifiedIdentifier().toString()));
        return null;
    }

    @Override
    public Void visitClass(ClassTree tree, Void none) {
        classes++;
        TypeElement c = (TypeElement) trees.getElement(getCurrentPath());
        boolean inside = c.getNestingKind() == NestingKind.MEMBER && c.getModifiers().contains(Modifier.STATIC);
        rule(2, c + " is a static class inside", c.getNestingKind() == NestingKind.TOP_LEVEL || inside);
        int fields = 0;
        for (Element member : c.getEnclosedElements()) {
            if (member.getKind() == ElementKind.FIELD && !member.getModifiers().contains(Modifier.STATIC)) {
                fields++;
            }
        }
        rule(11, c + " has some twenty fields at most: " + fields, fields <= MOST_FIELDS);
        return super.visitClass(tree, none);
    }

    @Override
    public Void visitMethod(MethodTree tree, Void none) {
        method = (ExecutableElement) trees.getElement(getCurrentPath());
        calls.putIfAbsent(method, new java.util.HashSet<>());
        boolean isPublic = method.getModifiers().contains(Modifier.PUBLIC);
        rule(1, method + " is private or in a class inside, or of the face", isPublic || method.getModifiers().contains(Modifier.PRIVATE)
            || ((TypeElement) method.getEnclosingElement()).getNestingKind() == NestingKind.MEMBER);
        rule(1, method + " has no name of a public one", isPublic || method.getKind() == ElementKind.CONSTRUCTOR
            || !publicNames.contains(method.getSimpleName().toString()));
        rule(6, method + " throws nothing", tree.getThrows().isEmpty());
        rule(11, method + " takes at most seven", tree.getParameters().size() <= MOST_PARAMETERS);
        long first = unit.getLineMap().getLineNumber(trees.getSourcePositions().getStartPosition(unit, tree));
        long last = unit.getLineMap().getLineNumber(Math.max(0, trees.getSourcePositions().getEndPosition(unit, tree)));
        rule(11, method + " has some sixty lines at most: " + (last - first + 1), last - first < MOST_LINES);
        super.visitMethod(tree, none);
        method = null;
        return null;
    }

    @Override
    public Void visitVariable(VariableTree tree, Void none) {
        Element variable = trees.getElement(getCurrentPath());
        rule(3, variable + " is of " + variable.asType(), isAllowed(variable.asType(), 0));
        rule(3, variable + " has its type written out", tree.getType() != null && !tree.getType().toString().equals("var"));
        if (variable.getKind() == ElementKind.FIELD && variable.getModifiers().contains(Modifier.STATIC)) {
            rule(5, variable + " is final", variable.getModifiers().contains(Modifier.FINAL));
            rule(5, variable + " has an initialiser", tree.getInitializer() != null);
        }
        return super.visitVariable(tree, none);
    }

    private static boolean isAllowed(TypeMirror type, int dimensions) {
        if (type.getKind() == TypeKind.ARRAY) {
            return isAllowed(((ArrayType) type).getComponentType(), dimensions + 1);
        }
        if (type.getKind().isPrimitive()) {
            return dimensions <= 2;
        }
        return dimensions <= 1 && (isOwn(type) || TEXTS.contains(type.toString()));
    }

    private static boolean isOwn(TypeMirror type) {
        return type.toString().equals("DayCords") || type.toString().startsWith("DayCords.");
    }

    @Override
    public Void visitMethodInvocation(MethodInvocationTree tree, Void none) {
        ExecutableElement to = (ExecutableElement) element(tree.getMethodSelect());
        TypeElement owner = (TypeElement) to.getEnclosingElement();
        String name = owner.getSimpleName() + "." + to.getSimpleName();
        if (isOwn(owner.asType())) {
            if (method != null) {
                calls.get(method).add(to);
            }
            if (to == method) {
                rule(8, to + " calls itself: private and static", to.getModifiers().containsAll(Set.of(Modifier.PRIVATE, Modifier.STATIC)));
            }
        } else if (!to.getSimpleName().contentEquals("<init>")) {
            boolean counts = Set.of("Math", "Integer", "Long").contains(owner.getSimpleName().toString())
                && to.getModifiers().contains(Modifier.STATIC) && !name.endsWith("Exact") && !name.endsWith("random");
            rule(4, "the library's " + name, counts || LIBRARY.contains(name));
        }
        return super.visitMethodInvocation(tree, none);
    }

    @Override
    public Void visitNewClass(NewClassTree tree, Void none) {
        rule(2, tree + " has no body of its own", tree.getClassBody() == null);
        rule(4, tree + " is of an own class or a text", isOwn(type(tree.getIdentifier())) || TEXTS.contains(type(tree.getIdentifier()).toString()));
        return super.visitNewClass(tree, none);
    }

    @Override
    public Void visitBlock(BlockTree tree, Void none) {
        rule(5, "no block beside the methods", !(getCurrentPath().getParentPath().getLeaf() instanceof ClassTree));
        return super.visitBlock(tree, none);
    }

    @Override
    public Void visitBinary(BinaryTree tree, Void none) {
        String left = String.valueOf(type(tree.getLeftOperand()));
        String right = String.valueOf(type(tree.getRightOperand()));
        if (tree.getKind() == Tree.Kind.PLUS) {
            rule(10, "texts are not joined by +: " + tree, !TEXTS.contains(left) && !TEXTS.contains(right));
        }
        if (tree.getKind() == Tree.Kind.EQUAL_TO || tree.getKind() == Tree.Kind.NOT_EQUAL_TO) {
            rule(6, "no two texts or Integers: " + tree, !left.startsWith("java.lang.") || !right.startsWith("java.lang."));
        }
        return super.visitBinary(tree, none);
    }

    @Override
    public Void visitTypeCast(TypeCastTree tree, Void none) {
        rule(6, "a cast to a number: " + tree, type(tree.getType()).getKind().isPrimitive());
        return super.visitTypeCast(tree, none);
    }

    private void bounded(Tree loop, ExpressionTree condition) {
        boolean always = condition == null || condition.toString().replaceAll("[()]", "").equals("true");
        rule(9, "a loop has an end: " + loop.toString().split("\n")[0], !always);
    }

    @Override
    public Void visitForLoop(ForLoopTree tree, Void none) {
        bounded(tree, tree.getCondition());
        return super.visitForLoop(tree, none);
    }

    @Override
    public Void visitWhileLoop(WhileLoopTree tree, Void none) {
        bounded(tree, tree.getCondition());
        return super.visitWhileLoop(tree, none);
    }

    @Override
    public Void visitDoWhileLoop(DoWhileLoopTree tree, Void none) {
        bounded(tree, tree.getCondition());
        return super.visitDoWhileLoop(tree, none);
    }

    @Override
    public Void visitLambdaExpression(LambdaExpressionTree tree, Void none) {
        never(2, tree);
        return null;
    }

    @Override
    public Void visitMemberReference(MemberReferenceTree tree, Void none) {
        never(2, tree);
        return null;
    }

    @Override
    public Void visitThrow(ThrowTree tree, Void none) {
        never(6, tree);
        return null;
    }

    @Override
    public Void visitTry(TryTree tree, Void none) {
        never(6, tree);
        return null;
    }

    @Override
    public Void visitSynchronized(SynchronizedTree tree, Void none) {
        never(6, tree);
        return null;
    }

    @Override
    public Void visitAssert(AssertTree tree, Void none) {
        never(6, tree);
        return null;
    }
}
