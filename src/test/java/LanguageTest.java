import com.sun.source.tree.ArrayAccessTree;
import com.sun.source.tree.BinaryTree;
import com.sun.source.tree.BlockTree;
import com.sun.source.tree.ClassTree;
import com.sun.source.tree.CompilationUnitTree;
import com.sun.source.tree.CompoundAssignmentTree;
import com.sun.source.tree.ImportTree;
import com.sun.source.tree.MethodInvocationTree;
import com.sun.source.tree.MethodTree;
import com.sun.source.tree.NewArrayTree;
import com.sun.source.tree.NewClassTree;
import com.sun.source.tree.ThrowTree;
import com.sun.source.tree.Tree;
import com.sun.source.tree.TypeCastTree;
import com.sun.source.tree.VariableTree;
import com.sun.source.util.JavacTask;
import com.sun.source.util.SourcePositions;
import com.sun.source.util.TreePathScanner;
import com.sun.source.util.Trees;
import java.io.IOException;
import java.util.EnumSet;
import java.util.HashSet;
import java.util.LinkedHashMap;
import java.util.LinkedHashSet;
import java.util.List;
import java.util.Map;
import java.util.Set;
import javax.lang.model.element.Element;
import javax.lang.model.element.ElementKind;
import javax.lang.model.element.ExecutableElement;
import javax.lang.model.element.Modifier;
import javax.tools.JavaCompiler;
import javax.tools.StandardJavaFileManager;
import javax.tools.ToolProvider;

/**
 * The class keeps to ../shared/LANGUAGE.md, as far as its source can show it; the compiler reads it. Where the class
 * leaves more than a rule asks for (it has no try, no recursion, no cast but of numbers), that is what is tested.
 */
public final class LanguageTest extends TreePathScanner<Void, Void> {
    private static final String SOURCE = "src/main/java/ClassificationYard.java";
    private static final int MOST_PARAMETERS = 7;
    private static final int MOST_LINES = 60;
    private static final int MOST_CLASSES = 12;
    private static final int MOST_FIELDS = 20;
    /** The rule says eight; one is left, so that it holds with the caller's own method counted too. */
    private static final int MOST_CALLS_DEEP = 7;

    private static final Set<String> IMPORTS = Set.of("java.util.NoSuchElementException");
    private static final Set<String> TYPES = Set.of("int", "long", "short", "byte", "char", "boolean", "double",
            "float", "String", "StringBuilder", "Row", "Network", "Cars", "Yard", "Program", "History");
    private static final Set<String> LIBRARY = Set.of("java.lang.Object.Object()",
            "java.lang.Math.min(int,int)", "java.lang.Math.max(int,int)",
            "java.lang.System.arraycopy(java.lang.Object,int,java.lang.Object,int,int)",
            "java.lang.String.length()", "java.lang.String.charAt(int)",
            "java.lang.StringBuilder.StringBuilder()", "java.lang.StringBuilder.append(char)",
            "java.lang.StringBuilder.append(int)", "java.lang.StringBuilder.append(java.lang.String)",
            "java.lang.StringBuilder.charAt(int)", "java.lang.StringBuilder.length()",
            "java.lang.StringBuilder.setLength(int)",
            // These two belong to a class above StringBuilder that the library hides.
            "java.lang.AbstractStringBuilder.length()", "java.lang.AbstractStringBuilder.charAt(int)",
            "java.lang.AbstractStringBuilder.setLength(int)");
    private static final Set<String> EXCEPTIONS = Set.of("IllegalStateException", "IllegalArgumentException",
            "IndexOutOfBoundsException", "ArithmeticException", "UnsupportedOperationException",
            "NoSuchElementException");
    private static final Set<Tree.Kind> NEVER = EnumSet.of(Tree.Kind.TRY, Tree.Kind.CATCH, Tree.Kind.LAMBDA_EXPRESSION,
            Tree.Kind.MEMBER_REFERENCE, Tree.Kind.SYNCHRONIZED, Tree.Kind.ASSERT, Tree.Kind.INSTANCE_OF,
            Tree.Kind.SWITCH_EXPRESSION, Tree.Kind.REMAINDER, Tree.Kind.REMAINDER_ASSIGNMENT,
            Tree.Kind.DIVIDE_ASSIGNMENT, Tree.Kind.ANNOTATION);
    private static final Set<String> DIVIDING = Set.of("meanMoveTime", "usedShare");

    private final Trees trees;
    private final CompilationUnitTree unit;
    private final SourcePositions positions;
    private final Map<Element, Set<Element>> calls = new LinkedHashMap<>();
    private final Set<String> publicNames = new HashSet<>();
    private final Set<String> privateNames = new HashSet<>();
    private int classes = 0;

    private LanguageTest(Trees trees, CompilationUnitTree unit) {
        this.trees = trees;
        this.unit = unit;
        positions = trees.getSourcePositions();
    }

    public static void main(String[] arguments) throws IOException {
        JavaCompiler compiler = ToolProvider.getSystemJavaCompiler();
        try (StandardJavaFileManager files = compiler.getStandardFileManager(null, null, null)) {
            JavacTask task = (JavacTask) compiler.getTask(null, files, null, List.of("--release", "17", "-proc:none"),
                    null, files.getJavaFileObjects(SOURCE));
            CompilationUnitTree unit = task.parse().iterator().next();
            task.analyze();
            LanguageTest test = new LanguageTest(Trees.instance(task), unit);
            test.scan(unit, null);
            test.checkWhole();
        }
        Check.finish("LanguageTest");
    }

    private void checkWhole() throws IOException {
        CharSequence text = unit.getSourceFile().getCharContent(true);
        Check.same("signs beyond 126 in the file", 0L, text.chars().filter(sign -> sign > 126).count());
        Check.same("rule 1: classes outside the class", 1, unit.getTypeDecls().size());
        Check.same("rule 1: a package", null, unit.getPackage());
        Set<String> both = new HashSet<>(publicNames);
        both.retainAll(privateNames);
        Check.same("rule 1: private methods with the name of a public one", Set.of(), both);
        Check.same("rule 11: at most " + MOST_CLASSES + " classes", true, classes <= MOST_CLASSES);
        for (Element method : calls.keySet()) {
            int depth = depthOf(method, new LinkedHashSet<>());
            Check.same("rule 11: depth " + depth + " below " + method, true, depth <= MOST_CALLS_DEEP);
        }
    }

    /** The methods in the longest chain from this one on, itself counted. */
    private int depthOf(Element method, Set<Element> open) {
        if (!open.add(method)) {
            Check.same("rule 8: recursion", "none", open.toString());
            return 0;
        }
        int deepest = 0;
        for (Element called : calls.getOrDefault(method, Set.of())) {
            deepest = Math.max(deepest, depthOf(called, open));
        }
        open.remove(method);
        return deepest + 1;
    }

    private String place(Tree tree) {
        return " in line " + lineOf(positions.getStartPosition(unit, tree));
    }

    private long lineOf(long position) {
        return unit.getLineMap().getLineNumber(position);
    }

    private Element here() {
        return trees.getElement(getCurrentPath());
    }

    /** The method around the tree that is read now, or null in a field or a block of a class. */
    private MethodTree methodAround() {
        for (Tree tree : getCurrentPath()) {
            if (tree instanceof MethodTree method) {
                return method;
            }
            if (tree instanceof ClassTree) {
                return null;
            }
        }
        return null;
    }

    private boolean isInConstructorOrField() {
        MethodTree method = methodAround();
        return method == null || method.getReturnType() == null;
    }

    @Override
    public Void scan(Tree tree, Void nothing) {
        if (tree != null) {
            Check.same("rules 6 and 10: " + tree.getKind() + place(tree), false, NEVER.contains(tree.getKind()));
        }
        return super.scan(tree, nothing);
    }

    @Override
    public Void visitImport(ImportTree tree, Void nothing) {
        String name = tree.getQualifiedIdentifier().toString();
        Check.same("rule 4: import of " + name, true, IMPORTS.contains(name) && !tree.isStatic());
        return super.visitImport(tree, nothing);
    }

    @Override
    public Void visitClass(ClassTree tree, Void nothing) {
        classes++;
        Set<Modifier> modifiers = tree.getModifiers().getFlags();
        boolean isInside = getCurrentPath().getParentPath().getLeaf() instanceof ClassTree;
        Check.same("rule 2: " + tree.getSimpleName() + " is static", isInside, modifiers.contains(Modifier.STATIC));
        Check.same("rule 11: " + tree.getSimpleName() + " has no class above it", null, tree.getExtendsClause());
        int fields = 0;
        for (Tree member : tree.getMembers()) {
            Check.same("rule 5: an initialiser" + place(member), false, member instanceof BlockTree);
            if (member instanceof VariableTree field && !field.getModifiers().getFlags().contains(Modifier.STATIC)) {
                fields++;
            }
        }
        Check.same("rule 11: fields of " + tree.getSimpleName(), true, fields <= MOST_FIELDS);
        return super.visitClass(tree, nothing);
    }

    @Override
    public Void visitVariable(VariableTree tree, Void nothing) {
        String type = tree.getType().toString();
        boolean isRow = type.endsWith("[]");
        Check.same("rule 3: type " + type + place(tree), true,
                TYPES.contains(isRow ? type.substring(0, type.length() - 2) : type));
        if (tree.getModifiers().getFlags().contains(Modifier.STATIC)) {
            Check.same("rule 5: " + tree.getName() + " is final", true,
                    tree.getModifiers().getFlags().contains(Modifier.FINAL));
            Check.same("rule 5: type of " + tree.getName(), "int", type);
        }
        return super.visitVariable(tree, nothing);
    }

    @Override
    public Void visitMethod(MethodTree tree, Void nothing) {
        Element method = here();
        calls.putIfAbsent(method, new LinkedHashSet<>());
        if (method.getModifiers().contains(Modifier.PUBLIC)) {
            publicNames.add(tree.getName().toString());
        }
        if (method.getModifiers().contains(Modifier.PRIVATE) && method.getKind() == ElementKind.METHOD) {
            privateNames.add(tree.getName().toString());
        }
        Check.same("rule 11: parameters of " + tree.getName(), true, tree.getParameters().size() <= MOST_PARAMETERS);
        if (positions.getEndPosition(unit, tree) >= 0) {
            long lines = lineOf(positions.getEndPosition(unit, tree)) - lineOf(positions.getStartPosition(unit, tree));
            Check.same("rule 11: lines of " + tree.getName(), true, lines < MOST_LINES);
        }
        Check.same("rule 6: own " + tree.getName(), false,
                Set.of("equals", "hashCode", "toString").contains(tree.getName().toString()));
        return super.visitMethod(tree, nothing);
    }

    @Override
    public Void visitMethodInvocation(MethodInvocationTree tree, Void nothing) {
        checkUse(tree);
        return super.visitMethodInvocation(tree, nothing);
    }

    @Override
    public Void visitNewClass(NewClassTree tree, Void nothing) {
        boolean isThrown = getCurrentPath().getParentPath().getLeaf() instanceof ThrowTree;
        if (!isThrown) {
            checkUse(tree);
            Check.same("rule 12: a call makes an object" + place(tree), true, isInConstructorOrField());
        }
        return super.visitNewClass(tree, nothing);
    }

    /** A call of the file's own methods is kept for the depth; one of the library must be on the list. */
    private void checkUse(Tree tree) {
        ExecutableElement used = (ExecutableElement) here();
        Element owner = used.getEnclosingElement();
        boolean isOwn = trees.getTree(used) != null;
        MethodTree around = methodAround();
        if (isOwn && around != null) {
            calls.computeIfAbsent(trees.getElement(trees.getPath(unit, around)), key -> new LinkedHashSet<>()).add(used);
        }
        if (!isOwn) {
            String name = used.getKind() == ElementKind.CONSTRUCTOR ? owner.getSimpleName() + signatureOf(used)
                    : used.getSimpleName() + signatureOf(used);
            Check.same("rule 4: " + owner + "." + name + place(tree), true, LIBRARY.contains(owner + "." + name));
        }
    }

    private static String signatureOf(ExecutableElement method) {
        String text = method.toString();
        return text.substring(text.indexOf('('));
    }

    @Override
    public Void visitNewArray(NewArrayTree tree, Void nothing) {
        Check.same("rule 12: a call makes an array" + place(tree), true, isInConstructorOrField());
        return super.visitNewArray(tree, nothing);
    }

    @Override
    public Void visitThrow(ThrowTree tree, Void nothing) {
        Check.same("rule 6: throw in a constructor" + place(tree), false, isInConstructorOrField());
        boolean isAllowed = tree.getExpression() instanceof NewClassTree made
                && EXCEPTIONS.contains(made.getIdentifier().toString())
                && made.getArguments().stream().allMatch(each -> each.getKind() == Tree.Kind.STRING_LITERAL);
        Check.same("rule 6: what is thrown" + place(tree), true, isAllowed);
        return super.visitThrow(tree, nothing);
    }

    @Override
    public Void visitTypeCast(TypeCastTree tree, Void nothing) {
        Check.same("rule 6: cast of a number" + place(tree), true,
                Set.of("int", "long", "char", "double", "float").contains(tree.getType().toString()));
        return super.visitTypeCast(tree, nothing);
    }

    /** Rule 7: the method that uses the index compares it with the length of the row, and with 0 or counts from it. */
    @Override
    public Void visitArrayAccess(ArrayAccessTree tree, Void nothing) {
        String method = String.valueOf(methodAround());
        String index = tree.getIndex().toString();
        boolean isBelow = method.contains(index + " < " + tree.getExpression() + ".length");
        boolean isAbove = method.contains(index + " >= 0") || method.contains("int " + index + " = 0");
        Check.same("rule 7: an index that is not tested" + place(tree), true, isBelow && isAbove);
        return super.visitArrayAccess(tree, nothing);
    }

    @Override
    public Void visitBinary(BinaryTree tree, Void nothing) {
        if (tree.getKind() == Tree.Kind.DIVIDE) {
            Check.same("rule 7: a division" + place(tree), true,
                    DIVIDING.contains(String.valueOf(methodAround().getName())));
        }
        if (tree.getKind() == Tree.Kind.PLUS) {
            Check.same("rule 10: texts joined by +" + place(tree), false, isText(tree));
        }
        return super.visitBinary(tree, nothing);
    }

    @Override
    public Void visitCompoundAssignment(CompoundAssignmentTree tree, Void nothing) {
        Check.same("rule 10: texts joined by +=" + place(tree), false, isText(tree));
        return super.visitCompoundAssignment(tree, nothing);
    }

    private boolean isText(Tree tree) {
        return String.valueOf(trees.getTypeMirror(getCurrentPath())).equals("java.lang.String");
    }
}
