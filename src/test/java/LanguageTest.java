import com.sun.source.tree.AssertTree;
import com.sun.source.tree.BinaryTree;
import com.sun.source.tree.CatchTree;
import com.sun.source.tree.ClassTree;
import com.sun.source.tree.CompilationUnitTree;
import com.sun.source.tree.ImportTree;
import com.sun.source.tree.LambdaExpressionTree;
import com.sun.source.tree.MemberReferenceTree;
import com.sun.source.tree.MethodInvocationTree;
import com.sun.source.tree.MethodTree;
import com.sun.source.tree.NewClassTree;
import com.sun.source.tree.SynchronizedTree;
import com.sun.source.tree.ThrowTree;
import com.sun.source.tree.Tree;
import com.sun.source.tree.TryTree;
import com.sun.source.tree.VariableTree;
import com.sun.source.util.JavacTask;
import com.sun.source.util.TreePath;
import com.sun.source.util.TreePathScanner;
import com.sun.source.util.Trees;
import java.io.IOException;
import java.io.UncheckedIOException;
import java.nio.charset.StandardCharsets;
import java.nio.file.Files;
import java.nio.file.Path;
import java.util.HashMap;
import java.util.HashSet;
import java.util.List;
import java.util.Map;
import java.util.Set;
import javax.lang.model.element.Element;
import javax.lang.model.element.ElementKind;
import javax.lang.model.element.Modifier;
import javax.tools.JavaCompiler;
import javax.tools.StandardJavaFileManager;
import javax.tools.ToolProvider;

/** What of ../shared/LANGUAGE.md can be seen in the program's own lines, rule by rule. */
public final class LanguageTest extends TreePathScanner<Void, Void> {
    private static final Path PROGRAM = Path.of("src/main/java/HeavyGifts.java");
    private static final Set<String> LIBRARY = Set.of("java.lang.Math.max", "java.lang.Math.min",
            "java.lang.Integer.bitCount", "java.lang.System.arraycopy", "java.util.Arrays.fill",
            "java.lang.String.length", "java.lang.String.charAt", "java.lang.Object.<init>");
    private static final Set<String> EXCEPTIONS = Set.of("IllegalStateException", "IllegalArgumentException",
            "IndexOutOfBoundsException", "ArithmeticException", "UnsupportedOperationException",
            "NoSuchElementException", "RuntimeException");
    private static final Set<String> CONSTANTS = Set.of("int", "long", "boolean", "char", "java.lang.String", "int[]",
            "long[]", "char[]", "byte[]");
    private static final Set<String> FIELDS = Set.of("int", "long", "short", "byte", "char", "boolean", "int[]", "long[]",
            "short[]", "byte[]", "char[]", "boolean[]", "java.lang.String");
    private static final int MOST_LINES = 60;
    private static final int MOST_PARAMETERS = 7;
    private static final int MOST_CLASSES = 12;
    private static final int MOST_FIELDS = 20;
    private static final int DEEPEST = 8;

    private final Trees trees;
    private final CompilationUnitTree unit;
    private final Map<String, Set<String>> calls = new HashMap<>();
    private final Set<String> face = new HashSet<>();
    private int classes = 0;
    private String method = "";

    private LanguageTest(Trees trees, CompilationUnitTree unit) {
        this.trees = trees;
        this.unit = unit;
    }

    public static void main(String[] args) throws IOException {
        plainSigns();
        JavaCompiler compiler = ToolProvider.getSystemJavaCompiler();
        try (StandardJavaFileManager files = compiler.getStandardFileManager(null, null, StandardCharsets.US_ASCII)) {
            JavacTask task = (JavacTask) compiler.getTask(null, files, null, List.of("-proc:none"), null,
                    files.getJavaFileObjects(PROGRAM));
            CompilationUnitTree unit = task.parse().iterator().next();
            task.analyze();
            LanguageTest test = new LanguageTest(Trees.instance(task), unit);
            test.scan(unit, null);
            test.afterAll();
        }
        Check.end();
    }

    private static void plainSigns() {
        try {
            for (byte sign : Files.readAllBytes(PROGRAM)) {
                Check.same("rule 4: signs are 1 to 127, not " + sign, 1, () -> sign > 0 ? 1 : 0);
            }
        } catch (IOException e) {
            throw new UncheckedIOException(e);
        }
    }

    private void wrongIf(boolean wrong, String rule, Tree tree) {
        long line = unit.getLineMap().getLineNumber(trees.getSourcePositions().getStartPosition(unit, tree));
        Check.same(rule + " (line " + line + ")", 0, () -> wrong ? 1 : 0);
    }

    private Element element() {
        return trees.getElement(getCurrentPath());
    }

    private String typeOf(Tree tree) {
        return "" + trees.getTypeMirror(new TreePath(getCurrentPath(), tree));
    }

    private static String nameOf(Element member) {
        return member.getEnclosingElement() + "." + member.getSimpleName();
    }

    @Override
    public Void visitImport(ImportTree tree, Void none) {
        String name = "" + tree.getQualifiedIdentifier();
        wrongIf(!Set.of("java.util.Arrays", "java.util.NoSuchElementException").contains(name), "rule 4: " + name, tree);
        return null;
    }

    @Override
    public Void visitClass(ClassTree tree, Void none) {
        classes++;
        Set<Modifier> told = tree.getModifiers().getFlags();
        boolean inside = element().getEnclosingElement().getKind() != ElementKind.PACKAGE;
        wrongIf(inside && (!told.contains(Modifier.STATIC) || told.contains(Modifier.PUBLIC)
                || told.contains(Modifier.PROTECTED)), "rule 1: classes inside", tree);
        int fields = 0;
        for (Tree member : tree.getMembers()) {
            wrongIf(member.getKind() == Tree.Kind.BLOCK, "rule 5: no initialiser block", member);
            fields += member instanceof VariableTree field
                    && !field.getModifiers().getFlags().contains(Modifier.STATIC) ? 1 : 0;
        }
        wrongIf(fields > MOST_FIELDS, "rule 11: " + fields + " fields", tree);
        return super.visitClass(tree, none);
    }

    @Override
    public Void visitVariable(VariableTree tree, Void none) {
        Element variable = element();
        String type = "" + variable.asType();
        if (variable.getKind() == ElementKind.FIELD) {
            boolean isStatic = variable.getModifiers().contains(Modifier.STATIC);
            wrongIf(isStatic && (!variable.getModifiers().contains(Modifier.FINAL) || !CONSTANTS.contains(type)),
                    "rule 5: static " + type, tree);
        }
        wrongIf(!FIELDS.contains(type) && !type.startsWith("HeavyGifts."), "rule 3: " + type, tree);
        return super.visitVariable(tree, none);
    }

    @Override
    public Void visitMethod(MethodTree tree, Void none) {
        method = nameOf(element());
        calls.putIfAbsent(method, new HashSet<>());
        if (element().getModifiers().contains(Modifier.PUBLIC)) {
            face.add(method);
        }
        long first = trees.getSourcePositions().getStartPosition(unit, tree);
        long end = trees.getSourcePositions().getEndPosition(unit, tree);
        long lines = unit.getLineMap().getLineNumber(end) - unit.getLineMap().getLineNumber(first) + 1;
        wrongIf(end >= 0 && lines > MOST_LINES, "rule 11: " + lines + " lines", tree);
        wrongIf(tree.getParameters().size() > MOST_PARAMETERS, "rule 11: parameters", tree);
        return super.visitMethod(tree, none);
    }

    @Override
    public Void visitMethodInvocation(MethodInvocationTree tree, Void none) {
        String called = nameOf(element());
        if (called.startsWith("java.")) {
            wrongIf(!LIBRARY.contains(called), "rule 4: " + called, tree);
        } else {
            calls.get(method).add(called);
        }
        return super.visitMethodInvocation(tree, none);
    }

    @Override
    public Void visitNewClass(NewClassTree tree, Void none) {
        String made = "" + tree.getIdentifier();
        wrongIf(tree.getClassBody() != null, "rule 2: no class without a name here", tree);
        wrongIf(!EXCEPTIONS.contains(made) && !typeOf(tree).startsWith("HeavyGifts."), "rule 4: new " + made, tree);
        return super.visitNewClass(tree, none);
    }

    @Override
    public Void visitThrow(ThrowTree tree, Void none) {
        wrongIf(!(tree.getExpression() instanceof NewClassTree made)
                || !EXCEPTIONS.contains("" + made.getIdentifier()), "rule 6: throw", tree);
        wrongIf(method.endsWith("<init>"), "rule 6: no throw in a constructor", tree);
        return super.visitThrow(tree, none);
    }

    /* The program catches nothing, so that no answer can come of what the machine throws. */
    @Override
    public Void visitTry(TryTree tree, Void none) {
        wrongIf(true, "rules 6, 7: try", tree);
        return super.visitTry(tree, none);
    }

    @Override
    public Void visitCatch(CatchTree tree, Void none) {
        wrongIf(true, "rules 6, 7: catch", tree);
        return super.visitCatch(tree, none);
    }

    @Override
    public Void visitBinary(BinaryTree tree, Void none) {
        boolean texts = typeOf(tree.getLeftOperand()).equals("java.lang.String")
                || typeOf(tree.getRightOperand()).equals("java.lang.String");
        wrongIf(texts, "rules 6, 10: " + tree.getKind() + " of texts", tree);
        return super.visitBinary(tree, none);
    }

    @Override
    public Void visitLambdaExpression(LambdaExpressionTree tree, Void none) {
        wrongIf(true, "rule 2: lambda", tree);
        return null;
    }

    @Override
    public Void visitMemberReference(MemberReferenceTree tree, Void none) {
        wrongIf(true, "rule 2: method reference", tree);
        return null;
    }

    @Override
    public Void visitSynchronized(SynchronizedTree tree, Void none) {
        wrongIf(true, "rule 6: synchronized", tree);
        return null;
    }

    @Override
    public Void visitAssert(AssertTree tree, Void none) {
        wrongIf(true, "rule 6: assert", tree);
        return null;
    }

    private void afterAll() {
        Check.same("rule 11: classes, " + classes, 1, () -> classes <= MOST_CLASSES ? 1 : 0);
        Check.same("methods of the face and its constructor", 26, face::size);
        for (String called : face) {
            int depth = depthFrom(called, new HashSet<>());
            Check.same("rule 11: " + called + " goes " + depth + " deep", 1, () -> depth <= DEEPEST ? 1 : 0);
        }
    }

    /** How many calls stand open at once at most, a call that is open already not counted again. */
    private int depthFrom(String from, Set<String> open) {
        int deepest = 0;
        open.add(from);
        for (String called : calls.getOrDefault(from, Set.of())) {
            deepest = open.contains(called) ? deepest : Math.max(deepest, depthFrom(called, open));
        }
        open.remove(from);
        return 1 + deepest;
    }
}
