import com.sun.source.tree.*;
import com.sun.source.util.JavacTask;
import com.sun.source.util.TreePath;
import com.sun.source.util.TreePathScanner;
import com.sun.source.util.Trees;
import java.io.IOException;
import java.nio.file.Files;
import java.nio.file.Path;
import java.util.HashMap;
import java.util.HashSet;
import java.util.List;
import java.util.Map;
import java.util.Set;
import java.util.TreeSet;
import javax.lang.model.element.Element;
import javax.lang.model.element.ElementKind;
import javax.lang.model.element.ExecutableElement;
import javax.lang.model.element.Modifier;
import javax.lang.model.element.VariableElement;
import javax.lang.model.type.TypeMirror;
import javax.tools.JavaCompiler;
import javax.tools.StandardJavaFileManager;
import javax.tools.ToolProvider;

/** LANGUAGE.md: what of its rules can be seen in the source, by the compiler's own tree of it. */
public final class LanguageTest extends TreePathScanner<Void, Void> {
    private static final Check check = new Check("LanguageTest");
    private static final Path SOURCE = Path.of("src/main/java/StereoWar.java");
    private static final int MOST_PARAMETERS = 7, MOST_LINES = 60, MOST_CALLS_DEEP = 8, MOST_CLASSES = 12;
    private static final int MOST_FIELDS = 20;
    private static final Set<String> PLAIN_TYPES =
        Set.of("int", "long", "short", "byte", "char", "boolean", "double", "float");
    private static final Set<String> LIBRARY_TYPES =
        Set.of("java.lang.String", "java.lang.StringBuilder", "java.lang.Integer");
    private static final Set<String> TEXT_CALLS = Set.of("length", "charAt", "isEmpty", "equals", "indexOf", "substring",
        "toCharArray", "append", "setCharAt", "setLength", "deleteCharAt", "reverse", "toString");

    private final Trees trees;
    private final CompilationUnitTree unit;
    private final Set<String> publicNames = new TreeSet<>();
    private final Set<String> privateNames = new TreeSet<>();
    private final Map<Element, Set<Element>> calls = new HashMap<>();
    private int classes = 0;
    private int loops = 0;

    private LanguageTest(Trees trees, CompilationUnitTree unit) {
        this.trees = trees;
        this.unit = unit;
    }

    public static void main(String[] args) throws IOException {
        JavaCompiler compiler = ToolProvider.getSystemJavaCompiler();
        try (StandardJavaFileManager files = compiler.getStandardFileManager(null, null, null)) {
            JavacTask task = (JavacTask) compiler.getTask(null, files, null, List.of("-proc:none"), null,
                files.getJavaFileObjects(SOURCE));
            CompilationUnitTree unit = task.parse().iterator().next();
            task.analyze();
            LanguageTest test = new LanguageTest(Trees.instance(task), unit);
            check.fine("imports or a package", unit.getImports().isEmpty() && unit.getPackageName() == null);
            check.due("classes beside each other", unit.getTypeDecls().size(), 1);
            test.scan(unit, null);
            test.whole();
        }
        check.fine("signs beyond 127", Files.readString(SOURCE).chars().allMatch(sign -> sign < 128));
        check.end();
    }

    private String where(Tree tree) {
        long line = unit.getLineMap().getLineNumber(trees.getSourcePositions().getStartPosition(unit, tree));
        return "line " + line + ": " + tree.toString().lines().findFirst().orElse("");
    }

    private void ruledOut(Tree tree, int rule) {
        check.fine("rule " + rule + ", " + where(tree), false);
    }

    private Element element(Tree tree) {
        return trees.getElement(TreePath.getPath(unit, tree));
    }

    private String type(Tree tree) {
        TypeMirror type = trees.getTypeMirror(TreePath.getPath(unit, tree));
        return type == null ? "" : type.toString();
    }

    /** Whether the compiler has put it in itself, as it does with constructors. */
    private boolean isInSource(Tree tree) {
        return trees.getSourcePositions().getEndPosition(unit, tree) >= 0;
    }

    private static boolean isOwn(Element element) {
        Element outer = element;
        while (outer.getEnclosingElement() != null && outer.getEnclosingElement().getKind() != ElementKind.PACKAGE) {
            outer = outer.getEnclosingElement();
        }
        return outer.getSimpleName().contentEquals("StereoWar");
    }

    // Rules 1, 2, 6 and 11
    @Override
    public Void visitClass(ClassTree tree, Void none) {
        classes++;
        Element element = element(tree);
        boolean isInside = element.getEnclosingElement().getKind() != ElementKind.PACKAGE;
        check.fine("rule 2: a class is not static or in a method: " + tree.getSimpleName(), !isInside
            || element.getModifiers().contains(Modifier.STATIC) && element.getEnclosingElement().getKind().isClass());
        check.fine("rule 1: modifiers of " + tree.getSimpleName(), isInside
            ? !element.getModifiers().contains(Modifier.PUBLIC) && !element.getModifiers().contains(Modifier.PROTECTED)
            : element.getModifiers().equals(Set.of(Modifier.PUBLIC, Modifier.FINAL)));
        long fields = tree.getMembers().stream().filter(member -> member instanceof VariableTree variable
            && !variable.getModifiers().getFlags().contains(Modifier.STATIC)).count();
        check.fine("rule 11: fields of " + tree.getSimpleName() + ": " + fields, fields <= MOST_FIELDS);
        return super.visitClass(tree, none);
    }

    // Rules 1, 6 and 11
    @Override
    public Void visitMethod(MethodTree tree, Void none) {
        Element element = element(tree);
        String name = tree.getName().toString();
        calls.putIfAbsent(element, new HashSet<>());
        if (!isInSource(tree)) {
            return super.visitMethod(tree, none);
        }
        if (!name.equals("<init>")) {
            boolean isOfTheFace = element.getModifiers().contains(Modifier.PUBLIC);
            (isOfTheFace ? publicNames : privateNames).add(name);
            check.fine("rule 1: " + name + " is neither public nor private",
                isOfTheFace || element.getModifiers().contains(Modifier.PRIVATE));
        }
        check.fine("rule 6: " + name, !Set.of("equals", "hashCode", "toString", "finalize").contains(name));
        check.fine("rule 11: parameters of " + name, tree.getParameters().size() <= MOST_PARAMETERS);
        long first = unit.getLineMap().getLineNumber(trees.getSourcePositions().getStartPosition(unit, tree));
        long last = unit.getLineMap().getLineNumber(trees.getSourcePositions().getEndPosition(unit, tree));
        check.fine("rule 11: lines of " + name + ": " + (last - first + 1), last - first < MOST_LINES);
        return super.visitMethod(tree, none);
    }

    // Rules 3 and 5
    @Override
    public Void visitVariable(VariableTree tree, Void none) {
        VariableElement element = (VariableElement) element(tree);
        String type = element.asType().toString();
        check.fine("rule 3: type of " + where(tree), isAllowedType(type));
        boolean isField = element.getKind() == ElementKind.FIELD;
        if (isField && element.getModifiers().contains(Modifier.STATIC)) {
            boolean isRow = type.matches("(int|long|char|byte)\\[\\]") && tree.getInitializer() instanceof NewArrayTree;
            check.fine("rule 5: " + where(tree),
                element.getModifiers().contains(Modifier.FINAL) && (element.getConstantValue() != null || isRow));
        }
        if (isField && !element.getModifiers().contains(Modifier.PUBLIC)) {
            check.fine("rule 1: " + where(tree), element.getModifiers().contains(Modifier.PRIVATE));
        }
        return super.visitVariable(tree, none);
    }

    private static boolean isAllowedType(String type) {
        String of = type.replace("[]", "");
        int dimensions = (type.length() - of.length()) / 2;
        if (PLAIN_TYPES.contains(of)) {
            return dimensions <= 2;
        }
        boolean isOwn = of.matches("StereoWar(\\.\\w+)?");
        boolean isList = of.matches("java\\.util\\.(Array)?List<(java\\.lang\\.Integer|StereoWar\\.\\w+)>");
        return isOwn && dimensions <= 1 || (isList || LIBRARY_TYPES.contains(of)) && dimensions == 0;
    }

    // Rules 4, 8 and 11
    @Override
    public Void visitMethodInvocation(MethodInvocationTree tree, Void none) {
        ExecutableElement called = (ExecutableElement) element(tree);
        if (isOwn(called)) {
            addCall(called);
        } else {
            check.fine("rule 4: " + where(tree), isInLibrary(called));
        }
        return super.visitMethodInvocation(tree, none);
    }

    private void addCall(Element called) {
        TreePath path = getCurrentPath();
        while (path != null && !(path.getLeaf() instanceof MethodTree)) {
            path = path.getParentPath();
        }
        if (path != null) {
            calls.computeIfAbsent(trees.getElement(path), caller -> new HashSet<>()).add(called);
        }
    }

    private static boolean isInLibrary(ExecutableElement called) {
        String owner = called.getEnclosingElement().toString();
        String name = called.getSimpleName().toString();
        boolean isOfNumbers = called.getParameters().stream()
            .allMatch(parameter -> parameter.asType().toString().matches("int|long"));
        return switch (owner) {
            case "java.lang.Object" -> name.equals("<init>");
            case "java.lang.Integer", "java.lang.Long", "java.lang.Math" -> isOfNumbers && !name.endsWith("Exact")
                && called.getModifiers().contains(Modifier.STATIC) && !name.matches("random|toString|valueOf|get.*");
            case "java.lang.String", "java.lang.StringBuilder" -> TEXT_CALLS.contains(name);
            case "java.util.ArrayList", "java.util.List" ->
                Set.of("add", "get", "set", "remove", "size", "isEmpty", "clear", "of").contains(name);
            case "java.lang.System" -> name.equals("arraycopy");
            case "java.util.Arrays" -> Set.of("copyOf", "copyOfRange", "fill").contains(name);
            default -> owner.equals("Array") && name.equals("clone");
        };
    }

    // Rules 2 and 12: what is made is made with the object, by constructors and initialisers of fields
    @Override
    public Void visitNewClass(NewClassTree tree, Void none) {
        check.fine("rule 2: " + where(tree), tree.getClassBody() == null);
        check.fine("rule 3: " + where(tree), isAllowedType(type(tree)));
        Element constructor = element(tree);
        if (isOwn(constructor)) {
            addCall(constructor);
        }
        madeWithTheObject(tree);
        return super.visitNewClass(tree, none);
    }

    @Override
    public Void visitNewArray(NewArrayTree tree, Void none) {
        madeWithTheObject(tree);
        return super.visitNewArray(tree, none);
    }

    private void madeWithTheObject(Tree tree) {
        TreePath path = getCurrentPath();
        while (!(path.getLeaf() instanceof MethodTree) && !(path.getLeaf() instanceof ClassTree)) {
            path = path.getParentPath();
        }
        check.fine("rule 12: " + where(tree), path.getLeaf() instanceof ClassTree
            || path.getLeaf() instanceof MethodTree method && method.getName().contentEquals("<init>"));
    }

    // Rule 2
    @Override
    public Void visitLambdaExpression(LambdaExpressionTree tree, Void none) {
        ruledOut(tree, 2);
        return null;
    }

    @Override
    public Void visitMemberReference(MemberReferenceTree tree, Void none) {
        ruledOut(tree, 2);
        return null;
    }

    // Rule 5: a block stands in a class alone as an initialiser
    @Override
    public Void visitBlock(BlockTree tree, Void none) {
        check.fine("rule 5: " + where(tree), !(getCurrentPath().getParentPath().getLeaf() instanceof ClassTree));
        return super.visitBlock(tree, none);
    }

    // Rule 6
    @Override
    public Void visitThrow(ThrowTree tree, Void none) {
        ruledOut(tree, 6);
        return null;
    }

    @Override
    public Void visitTry(TryTree tree, Void none) {
        ruledOut(tree, 6);
        return null;
    }

    @Override
    public Void visitSynchronized(SynchronizedTree tree, Void none) {
        ruledOut(tree, 6);
        return null;
    }

    @Override
    public Void visitAssert(AssertTree tree, Void none) {
        ruledOut(tree, 6);
        return null;
    }

    @Override
    public Void visitTypeCast(TypeCastTree tree, Void none) {
        check.fine("rule 6: " + where(tree), PLAIN_TYPES.contains(tree.getType().toString()));
        return super.visitTypeCast(tree, none);
    }

    // Rules 6 and 10
    @Override
    public Void visitBinary(BinaryTree tree, Void none) {
        String both = type(tree.getLeftOperand()) + " " + type(tree.getRightOperand());
        boolean ofTexts = both.contains("java.lang.String");
        boolean ofIntegers = both.contains("java.lang.Integer");
        boolean compares = tree.getKind() == Tree.Kind.EQUAL_TO || tree.getKind() == Tree.Kind.NOT_EQUAL_TO;
        check.fine("rule 6: " + where(tree), !compares || !ofTexts && !ofIntegers);
        check.fine("rule 10: " + where(tree), tree.getKind() != Tree.Kind.PLUS || !ofTexts);
        return super.visitBinary(tree, none);
    }

    @Override
    public Void visitCompoundAssignment(CompoundAssignmentTree tree, Void none) {
        check.fine("rule 10: " + where(tree), !type(tree.getVariable()).equals("java.lang.String"));
        return super.visitCompoundAssignment(tree, none);
    }

    // Rule 9: a for with a counter that is compared is the one kind of loop of the class
    @Override
    public Void visitForLoop(ForLoopTree tree, Void none) {
        loops++;
        boolean isCounted = tree.getInitializer().size() == 1 && tree.getUpdate().size() == 1
            && tree.getInitializer().get(0) instanceof VariableTree counter && tree.getCondition() != null
            && tree.getCondition().toString().matches(".*\\b" + counter.getName() + " (<|<=|>|>=) .*")
            && tree.getUpdate().get(0).toString().matches(counter.getName() + "(\\+\\+|--);");
        check.fine("rule 9: " + where(tree), isCounted);
        return super.visitForLoop(tree, none);
    }

    @Override
    public Void visitWhileLoop(WhileLoopTree tree, Void none) {
        ruledOut(tree, 9);
        return null;
    }

    @Override
    public Void visitDoWhileLoop(DoWhileLoopTree tree, Void none) {
        ruledOut(tree, 9);
        return null;
    }

    /** What is seen of all classes and calls together. */
    private void whole() {
        check.fine("rule 11: classes: " + classes, classes > 1 && classes <= MOST_CLASSES);
        check.fine("no loop was looked at", loops > 0);
        Set<String> inBoth = new TreeSet<>(publicNames);
        inBoth.retainAll(privateNames);
        check.fine("rule 1: names both public and private: " + inBoth, inBoth.isEmpty());
        Set<String> tooDeep = new TreeSet<>();
        for (Element method : calls.keySet()) {
            if (depth(method, 0) > MOST_CALLS_DEEP) {
                tooDeep.add(method.toString());
            }
        }
        check.fine("rules 8 and 11: calls too deep or without an end from " + tooDeep, tooDeep.isEmpty());
    }

    /** How many calls stand open at most, this one too; no call comes back to itself, so that it ends. */
    private int depth(Element method, int open) {
        if (open > MOST_CALLS_DEEP) {
            return 1;
        }
        int deepest = 0;
        for (Element called : calls.getOrDefault(method, Set.of())) {
            deepest = Math.max(deepest, depth(called, open + 1));
        }
        return 1 + deepest;
    }
}
