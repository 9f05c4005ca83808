import com.sun.source.tree.AssertTree;
import com.sun.source.tree.BinaryTree;
import com.sun.source.tree.ClassTree;
import com.sun.source.tree.CompilationUnitTree;
import com.sun.source.tree.CompoundAssignmentTree;
import com.sun.source.tree.EnhancedForLoopTree;
import com.sun.source.tree.ExpressionTree;
import com.sun.source.tree.ForLoopTree;
import com.sun.source.tree.IdentifierTree;
import com.sun.source.tree.ImportTree;
import com.sun.source.tree.LambdaExpressionTree;
import com.sun.source.tree.MemberReferenceTree;
import com.sun.source.tree.MemberSelectTree;
import com.sun.source.tree.MethodInvocationTree;
import com.sun.source.tree.MethodTree;
import com.sun.source.tree.NewClassTree;
import com.sun.source.tree.SynchronizedTree;
import com.sun.source.tree.ThrowTree;
import com.sun.source.tree.Tree;
import com.sun.source.tree.TryTree;
import com.sun.source.tree.VariableTree;
import com.sun.source.util.JavacTask;
import com.sun.source.util.SourcePositions;
import com.sun.source.util.TreePathScanner;
import com.sun.source.util.Trees;
import java.io.File;
import java.io.IOException;
import java.nio.file.Files;
import java.nio.file.Path;
import java.util.ArrayDeque;
import java.util.Deque;
import java.util.HashMap;
import java.util.HashSet;
import java.util.List;
import java.util.Map;
import java.util.Set;
import javax.lang.model.element.Element;
import javax.lang.model.element.ElementKind;
import javax.lang.model.element.Modifier;
import javax.lang.model.element.PackageElement;
import javax.lang.model.element.TypeElement;
import javax.lang.model.element.VariableElement;
import javax.lang.model.util.ElementFilter;
import javax.tools.JavaCompiler;
import javax.tools.StandardJavaFileManager;
import javax.tools.ToolProvider;

/**
 * What of ../shared/LANGUAGE.md a compiler can see in the program; the rule's number stands ahead of each text.
 * It asks for a little more than the rules where the program needs no more: no try, no local class, no recursion,
 * no for without an index.
 */
final class LanguageTest extends TreePathScanner<Void, Void> {
    private static final Set<String> LIBRARY = Set.of(
        "String", "String.length", "String.charAt", "String.isEmpty", "String.equals", "String.indexOf",
        "String.substring", "String.toCharArray", "Integer", "Object",
        "StringBuilder", "StringBuilder.append", "StringBuilder.charAt", "StringBuilder.setCharAt",
        "StringBuilder.setLength", "StringBuilder.deleteCharAt", "StringBuilder.reverse", "StringBuilder.length",
        "StringBuilder.toString",
        "ArrayList", "ArrayList.add", "ArrayList.get", "ArrayList.set", "ArrayList.remove", "ArrayList.size",
        "ArrayList.isEmpty", "ArrayList.clear",
        "List", "List.add", "List.get", "List.set", "List.remove", "List.size", "List.isEmpty", "List.clear",
        "Math", "Math.min", "Math.max", "Math.abs", "Math.floorDiv", "Math.floorMod",
        "System", "System.arraycopy", "Arrays", "Arrays.copyOf", "Arrays.copyOfRange", "Arrays.fill");
    private static final Set<String> EXCEPTIONS = Set.of(
        "IllegalStateException", "IllegalArgumentException", "IndexOutOfBoundsException", "ArithmeticException",
        "UnsupportedOperationException", "NoSuchElementException", "RuntimeException");

    private static final int MOST_CLASSES = 12;
    private static final int MOST_FIELDS = 20;
    private static final int MOST_PARAMETERS = 7;
    private static final int MOST_LINES = 60;
    private static final int DEEPEST_CHAIN = 8;

    private final Checks checks = new Checks();
    private final CompilationUnitTree unit;
    private final Trees trees;
    private final Map<Element, Set<Element>> calls = new HashMap<>();
    private int classes = 0;

    private LanguageTest(CompilationUnitTree unit, Trees trees) {
        this.unit = unit;
        this.trees = trees;
    }

    /** Another file can be named as an argument, to try this test itself. */
    public static void main(String[] args) throws IOException {
        File program = new File(args.length > 0 ? args[0] : "src/main/java/Resetline.java");
        JavaCompiler compiler = ToolProvider.getSystemJavaCompiler();
        try (StandardJavaFileManager files = compiler.getStandardFileManager(null, null, null)) {
            JavacTask task = (JavacTask) compiler.getTask(null, files, null, List.of("--release", "17"), null,
                    files.getJavaFileObjects(program));
            CompilationUnitTree unit = task.parse().iterator().next();
            task.analyze();
            LanguageTest test = new LanguageTest(unit, Trees.instance(task));
            test.signsAreAscii(program.toPath());
            test.scan(unit, null);
            test.chainsAreShort();
            test.checks.holds("11: " + test.classes + " classes", test.classes <= MOST_CLASSES);
            test.checks.close();
        }
    }

    private void signsAreAscii(Path program) throws IOException {
        for (byte sign : Files.readAllBytes(program)) {
            if (sign <= 0) {
                checks.fail("4: the program has a sign that is not 1 to 127");
                return;
            }
        }
        checks.same("1: public classes of the file", unit.getTypeDecls().size(), 1);
        checks.holds("no package line", unit.getPackageName() == null);
    }

    // ---- classes and fields

    @Override
    public Void visitClass(ClassTree tree, Void unused) {
        classes++;
        Element element = elementHere();
        checks.holds("2: " + element + " is no local or anonymous class",
                element.getEnclosingElement() instanceof PackageElement
                        || element.getEnclosingElement() instanceof TypeElement);
        if (element.getEnclosingElement() instanceof TypeElement) {
            checks.holds("1: " + element + " is static", element.getModifiers().contains(Modifier.STATIC));
        }
        int fields = 0;
        for (VariableElement field : ElementFilter.fieldsIn(element.getEnclosedElements())) {
            if (field.getModifiers().contains(Modifier.STATIC)) {
                checks.holds("5: " + field + " is a constant", field.getConstantValue() != null);
            } else {
                fields++;
            }
        }
        checks.holds("11: fields of " + element, fields <= MOST_FIELDS);
        for (Tree member : tree.getMembers()) {
            checks.holds("5: " + element + " has no initialiser block", member.getKind() != Tree.Kind.BLOCK);
        }
        return super.visitClass(tree, unused);
    }

    @Override
    public Void visitVariable(VariableTree tree, Void unused) {
        String type = String.valueOf(trees.getTypeMirror(getCurrentPath()));
        checks.holds("3: the type of " + tree.getName() + ", " + type,
                type.matches("(int|long|short|byte|char|boolean|double|float)(\\[\\]){0,2}"
                        + "|java\\.lang\\.(String|StringBuilder)|Resetline[.\\w]*(\\[\\])?"
                        + "|java\\.util\\.(ArrayList|List)<(Resetline[.\\w]*|java\\.lang\\.Integer)>"));
        return super.visitVariable(tree, unused);
    }

    // ---- the library

    @Override
    public Void visitImport(ImportTree tree, Void unused) {
        checks.holds("4: " + tree.getQualifiedIdentifier() + " is not brought in static", !tree.isStatic());
        return super.visitImport(tree, unused);
    }

    @Override
    public Void visitIdentifier(IdentifierTree tree, Void unused) {
        typeIsAllowed();
        return super.visitIdentifier(tree, unused);
    }

    @Override
    public Void visitMemberSelect(MemberSelectTree tree, Void unused) {
        typeIsAllowed();
        return super.visitMemberSelect(tree, unused);
    }

    private void typeIsAllowed() {
        Element element = elementHere();
        if (element instanceof TypeElement && isOfLibrary(element)) {
            String name = element.getSimpleName().toString();
            checks.holds("4: " + name + " is of the library that is allowed",
                    LIBRARY.contains(name) || EXCEPTIONS.contains(name));
        }
    }

    @Override
    public Void visitMethodInvocation(MethodInvocationTree tree, Void unused) {
        Element called = elementHere();
        if (called.getKind() == ElementKind.METHOD) {
            noteCall(called);
        }
        return super.visitMethodInvocation(tree, unused);
    }

    @Override
    public Void visitNewClass(NewClassTree tree, Void unused) {
        Element constructor = elementHere();
        if (!isOfLibrary(constructor)) {
            noteCall(constructor);
        }
        return super.visitNewClass(tree, unused);
    }

    private void noteCall(Element called) {
        if (isOfLibrary(called)) {
            String name = called.getEnclosingElement().getSimpleName() + "." + called.getSimpleName();
            checks.holds("4: " + name + " is of the library that is allowed", LIBRARY.contains(name));
            return;
        }
        Element caller = methodHere();
        if (caller != null) {
            calls.computeIfAbsent(caller, ignored -> new HashSet<>()).add(called);
        }
    }

    // ---- what is never written

    @Override
    public Void visitLambdaExpression(LambdaExpressionTree tree, Void unused) {
        checks.fail("2: a lambda: " + tree);
        return super.visitLambdaExpression(tree, unused);
    }

    @Override
    public Void visitMemberReference(MemberReferenceTree tree, Void unused) {
        checks.fail("2: a method reference: " + tree);
        return super.visitMemberReference(tree, unused);
    }

    @Override
    public Void visitSynchronized(SynchronizedTree tree, Void unused) {
        checks.fail("6: synchronized");
        return super.visitSynchronized(tree, unused);
    }

    @Override
    public Void visitAssert(AssertTree tree, Void unused) {
        checks.fail("6: " + tree);
        return super.visitAssert(tree, unused);
    }

    @Override
    public Void visitTry(TryTree tree, Void unused) {
        checks.fail("6: a try, which the program does not need");
        return super.visitTry(tree, unused);
    }

    @Override
    public Void visitBinary(BinaryTree tree, Void unused) {
        if (tree.getKind() == Tree.Kind.PLUS) {
            checks.holds("10: no texts joined by +: " + tree, !isTextHere());
        }
        return super.visitBinary(tree, unused);
    }

    @Override
    public Void visitCompoundAssignment(CompoundAssignmentTree tree, Void unused) {
        checks.holds("10: no texts joined by +=: " + tree, !isTextHere());
        return super.visitCompoundAssignment(tree, unused);
    }

    // ---- exceptions, loops, methods

    @Override
    public Void visitThrow(ThrowTree tree, Void unused) {
        boolean written = false;
        if (tree.getExpression() instanceof NewClassTree made && made.getClassBody() == null) {
            List<? extends ExpressionTree> texts = made.getArguments();
            written = EXCEPTIONS.contains(made.getIdentifier().toString()) && (texts.isEmpty()
                    || texts.size() == 1 && texts.get(0).getKind() == Tree.Kind.STRING_LITERAL);
        }
        checks.holds("6: a new exception of the list with a written text: " + tree, written);
        Element method = methodHere();
        checks.holds("6: no throw in a constructor: " + tree,
                method != null && method.getKind() == ElementKind.METHOD);
        return super.visitThrow(tree, unused);
    }

    @Override
    public Void visitForLoop(ForLoopTree tree, Void unused) {
        checks.holds("9: a loop with a bound and a counter: " + tree,
                tree.getCondition() != null && tree.getUpdate().size() == 1);
        return super.visitForLoop(tree, unused);
    }

    @Override
    public Void visitEnhancedForLoop(EnhancedForLoopTree tree, Void unused) {
        checks.fail("12: a loop over a list goes by index: " + tree);
        return super.visitEnhancedForLoop(tree, unused);
    }

    @Override
    public Void visitMethod(MethodTree tree, Void unused) {
        checks.holds("11: parameters of " + tree.getName(), tree.getParameters().size() <= MOST_PARAMETERS);
        SourcePositions positions = trees.getSourcePositions();
        long first = unit.getLineMap().getLineNumber(Math.max(0, positions.getStartPosition(unit, tree)));
        long last = unit.getLineMap().getLineNumber(Math.max(0, positions.getEndPosition(unit, tree)));
        checks.holds("11: lines of " + tree.getName(), last - first < MOST_LINES);
        String name = tree.getName().toString();
        checks.holds("6: " + name + " is none of equals, hashCode, toString",
                !Set.of("equals", "hashCode", "toString").contains(name));
        return super.visitMethod(tree, unused);
    }

    private void chainsAreShort() {
        checks.holds("the program has calls", !calls.isEmpty());
        for (Element method : calls.keySet()) {
            Deque<Element> open = new ArrayDeque<>();
            int depth = depthFrom(method, open);
            checks.holds("11: " + method + " starts a chain of " + depth, depth <= DEEPEST_CHAIN);
        }
    }

    private int depthFrom(Element method, Deque<Element> open) {
        if (open.contains(method)) {
            checks.fail("8: a recursion, which the program does not need: " + method);
            return 0;
        }
        open.push(method);
        int deepest = 0;
        for (Element called : calls.getOrDefault(method, Set.of())) {
            deepest = Math.max(deepest, depthFrom(called, open));
        }
        open.pop();
        return 1 + deepest;
    }

    // ---- what the checks share

    private Element elementHere() {
        return trees.getElement(getCurrentPath());
    }

    private Element methodHere() {
        var path = getCurrentPath();
        while (path != null && !(path.getLeaf() instanceof MethodTree)) {
            path = path.getParentPath();
        }
        return path == null ? null : trees.getElement(path);
    }

    private boolean isTextHere() {
        return String.valueOf(trees.getTypeMirror(getCurrentPath())).equals("java.lang.String");
    }

    private static boolean isOfLibrary(Element element) {
        Element outer = element;
        while (outer != null && !(outer instanceof PackageElement)) {
            outer = outer.getEnclosingElement();
        }
        return outer instanceof PackageElement unit && !unit.isUnnamed();
    }
}
