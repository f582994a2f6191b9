import com.sun.source.tree.AssertTree;
import com.sun.source.tree.BinaryTree;
import com.sun.source.tree.BlockTree;
import com.sun.source.tree.ClassTree;
import com.sun.source.tree.CompilationUnitTree;
import com.sun.source.tree.ExpressionTree;
import com.sun.source.tree.ForLoopTree;
import com.sun.source.tree.ImportTree;
import com.sun.source.tree.LambdaExpressionTree;
import com.sun.source.tree.LiteralTree;
import com.sun.source.tree.MemberReferenceTree;
import com.sun.source.tree.MethodInvocationTree;
import com.sun.source.tree.MethodTree;
import com.sun.source.tree.NewClassTree;
import com.sun.source.tree.SynchronizedTree;
import com.sun.source.tree.ThrowTree;
import com.sun.source.tree.Tree;
import com.sun.source.tree.TryTree;
import com.sun.source.tree.VariableTree;
import com.sun.source.tree.WhileLoopTree;
import com.sun.source.util.JavacTask;
import com.sun.source.util.TreePathScanner;
import com.sun.source.util.Trees;
import java.io.IOException;
import java.net.URI;
import java.util.ArrayList;
import java.util.LinkedHashMap;
import java.util.List;
import java.util.Map;
import java.util.Set;
import java.util.TreeSet;
import javax.lang.model.element.Element;
import javax.lang.model.element.ElementKind;
import javax.lang.model.element.Modifier;
import javax.lang.model.type.ArrayType;
import javax.lang.model.type.TypeKind;
import javax.lang.model.type.TypeMirror;
import javax.tools.DiagnosticCollector;
import javax.tools.JavaCompiler;
import javax.tools.JavaFileObject;
import javax.tools.SimpleJavaFileObject;
import javax.tools.ToolProvider;

/** Reads a source by the compiler's own tree and tells, by its number, each rule of LANGUAGE.md that it breaks. */
final class Rules extends TreePathScanner<Void, Void> {
    static final int DEEPEST = 8, MOST_PARAMETERS = 7, MOST_LINES = 60, MOST_CLASSES = 12, MOST_FIELDS = 20;

    private static final Set<String> OUTSIDE_CALLS = Set.of(
        "String.length", "String.charAt", "String.isEmpty", "String.equals", "String.indexOf", "String.substring",
        "String.toCharArray", "StringBuilder.append", "StringBuilder.charAt", "StringBuilder.setCharAt",
        "StringBuilder.setLength", "StringBuilder.deleteCharAt", "StringBuilder.reverse", "StringBuilder.length",
        "StringBuilder.toString", "Math.max", "Math.min", "Math.abs", "Math.floorDiv", "Math.floorMod",
        "Integer.bitCount", "Integer.compare", "Integer.max", "Integer.min", "Long.bitCount", "Long.compare",
        "System.arraycopy", "Arrays.copyOf", "Arrays.copyOfRange", "Arrays.fill", "Object.<init>");
    private static final Set<String> STATIC_TYPES = Set.of("int", "long", "boolean", "char", "java.lang.String",
        "int[]", "long[]", "char[]", "byte[]");
    private static final Set<TypeKind> NUMBERS = Set.of(TypeKind.INT, TypeKind.LONG, TypeKind.SHORT, TypeKind.BYTE,
        TypeKind.CHAR, TypeKind.BOOLEAN, TypeKind.DOUBLE, TypeKind.FLOAT);

    private final Trees trees;
    private final CompilationUnitTree unit;
    private final Set<String> own = new TreeSet<>();
    private final Map<String, Set<String>> callsOf = new LinkedHashMap<>();
    private final List<String> broken = new ArrayList<>();
    private String method = "";

    private Rules(Trees trees, CompilationUnitTree unit) {
        this.trees = trees;
        this.unit = unit;
    }

    static List<String> brokenBy(String source) throws IOException {
        JavaCompiler compiler = ToolProvider.getSystemJavaCompiler();
        DiagnosticCollector<JavaFileObject> told = new DiagnosticCollector<>();
        JavaFileObject file = new SimpleJavaFileObject(URI.create("string:///PromiseNames.java"), JavaFileObject.Kind.SOURCE) {
            @Override
            public CharSequence getCharContent(boolean ignored) {
                return source;
            }
        };
        JavacTask task = (JavacTask) compiler.getTask(null, null, told, List.of("-proc:none", "--release", "17"), null, List.of(file));
        Rules rules = new Rules(Trees.instance(task), task.parse().iterator().next());
        task.analyze();
        told.getDiagnostics().forEach(one -> rules.broken.add("it does not compile: " + one));
        if (rules.broken.isEmpty()) {
            rules.look();
        }
        return rules.broken;
    }

    private void look() {
        breaks(1, unit.getPackageName() != null || unit.getTypeDecls().size() != 1, "a package, or more than one class");
        scan(unit, null);
        breaks(11, own.size() > MOST_CLASSES, own.size() + " classes");
        for (String from : callsOf.keySet()) {
            List<String> chain = longestChain(from, List.of());
            breaks(11, chain.size() > DEEPEST, chain.size() + " deep: " + String.join(" > ", chain));
        }
    }

    private void breaks(int rule, boolean isSo, String what) {
        if (isSo) {
            broken.add("rule " + rule + ": " + what + (method.isEmpty() ? "" : " (in " + method + ")"));
        }
    }

    /** The class keeps to no recursion at all, so a chain that comes back to itself is told as rule 8. */
    private List<String> longestChain(String from, List<String> above) {
        List<String> path = new ArrayList<>(above);
        path.add(from);
        if (above.contains(from)) {
            breaks(8, true, "it calls itself: " + String.join(" > ", path));
            return path;
        }
        List<String> longest = path;
        for (String to : callsOf.getOrDefault(from, Set.of())) {
            List<String> chain = longestChain(to, path);
            longest = chain.size() > longest.size() ? chain : longest;
        }
        return longest;
    }

    // ---- classes and their members

    @Override
    public Void visitClass(ClassTree tree, Void none) {
        Element element = element(tree);
        own.add(element.toString());
        Tree around = getCurrentPath().getParentPath().getLeaf();
        if (around instanceof CompilationUnitTree) {
            breaks(1, !element.getModifiers().containsAll(Set.of(Modifier.PUBLIC, Modifier.FINAL)), "it is not public and final");
        } else {
            breaks(2, !(around instanceof ClassTree), "a local or anonymous class " + tree.getSimpleName());
            breaks(2, around instanceof ClassTree && !element.getModifiers().contains(Modifier.STATIC), tree.getSimpleName() + " is not static");
            breaks(1, element.getModifiers().contains(Modifier.PUBLIC) || element.getModifiers().contains(Modifier.PROTECTED), tree.getSimpleName() + " can be seen");
        }
        long fields = element.getEnclosedElements().stream()
            .filter(one -> one.getKind() == ElementKind.FIELD && !one.getModifiers().contains(Modifier.STATIC)).count();
        breaks(11, fields > MOST_FIELDS, tree.getSimpleName() + " has " + fields + " fields");
        return super.visitClass(tree, none);
    }

    @Override
    public Void visitMethod(MethodTree tree, Void none) {
        Element element = element(tree);
        String outer = method;
        method = nameOf(element);
        callsOf.putIfAbsent(method, new TreeSet<>());
        breaks(11, tree.getParameters().size() > MOST_PARAMETERS, tree.getParameters().size() + " parameters");
        breaks(11, linesOf(tree) > MOST_LINES, linesOf(tree) + " lines");
        breaks(6, !tree.getThrows().isEmpty(), "throws");
        breaks(6, tree.getModifiers().getFlags().contains(Modifier.SYNCHRONIZED), "synchronized");
        breaks(6, Set.of("equals", "hashCode", "toString").contains(tree.getName().toString()), tree.getName() + " of its own");
        super.visitMethod(tree, none);
        method = outer;
        return null;
    }

    @Override
    public Void visitVariable(VariableTree tree, Void none) {
        Element element = element(tree);
        TypeMirror type = element.asType();
        breaks(3, !isAllowed(type, element.getKind() == ElementKind.ENUM_CONSTANT), "a " + type);
        if (element.getKind() == ElementKind.FIELD && element.getModifiers().contains(Modifier.STATIC)) {
            boolean isConstant = element.getModifiers().contains(Modifier.FINAL) && STATIC_TYPES.contains(type.toString())
                && tree.getInitializer() != null;
            breaks(5, !isConstant, tree.getName() + " is static");
        }
        return super.visitVariable(tree, none);
    }

    @Override
    public Void visitBlock(BlockTree tree, Void none) {
        breaks(5, tree.isStatic(), "a static block");
        return super.visitBlock(tree, none);
    }

    private boolean isAllowed(TypeMirror type, boolean isConstant) {
        if (type.getKind() == TypeKind.ARRAY) {
            TypeMirror part = ((ArrayType) type).getComponentType();
            boolean isRowOfNumbers = part.getKind() == TypeKind.ARRAY && NUMBERS.contains(((ArrayType) part).getComponentType().getKind());
            return isRowOfNumbers || part.getKind() != TypeKind.ARRAY && isAllowed(part, false) && !part.toString().startsWith("java.");
        }
        String name = type.toString();
        return isConstant || NUMBERS.contains(type.getKind()) || own.contains(name) || name.startsWith("PromiseNames.")
            || name.equals("java.lang.String") || name.equals("java.lang.StringBuilder");
    }

    // ---- what a method does

    @Override
    public Void visitMethodInvocation(MethodInvocationTree tree, Void none) {
        noteCall(trees.getElement(getCurrentPath()));
        return super.visitMethodInvocation(tree, none);
    }

    @Override
    public Void visitNewClass(NewClassTree tree, Void none) {
        noteCall(trees.getElement(getCurrentPath()));
        return super.visitNewClass(tree, none);
    }

    private void noteCall(Element called) {
        String name = nameOf(called);
        if (name.startsWith("PromiseNames")) {
            callsOf.computeIfAbsent(method.isEmpty() ? "PromiseNames.<init>" : method, one -> new TreeSet<>()).add(name);
        } else {
            breaks(4, !OUTSIDE_CALLS.contains(name), name);
        }
    }

    @Override
    public Void visitBinary(BinaryTree tree, Void none) {
        boolean isText = isText(tree.getLeftOperand()) || isText(tree.getRightOperand());
        breaks(10, isText && tree.getKind() == Tree.Kind.PLUS, "texts are joined by +");
        breaks(6, isText && (tree.getKind() == Tree.Kind.EQUAL_TO || tree.getKind() == Tree.Kind.NOT_EQUAL_TO), "texts are compared by ==");
        return super.visitBinary(tree, none);
    }

    private boolean isText(ExpressionTree tree) {
        TypeMirror type = trees.getTypeMirror(new com.sun.source.util.TreePath(getCurrentPath(), tree));
        return type != null && type.toString().equals("java.lang.String");
    }

    @Override
    public Void visitLiteral(LiteralTree tree, Void none) {
        boolean isPlain = String.valueOf(tree.getValue()).chars().allMatch(sign -> sign >= 1 && sign <= 127);
        breaks(4, !isPlain, "a sign that is not plain");
        return super.visitLiteral(tree, none);
    }

    @Override
    public Void visitForLoop(ForLoopTree tree, Void none) {
        breaks(9, tree.getCondition() == null, "a loop without an end");
        return super.visitForLoop(tree, none);
    }

    @Override
    public Void visitWhileLoop(WhileLoopTree tree, Void none) {
        breaks(9, tree.getCondition().toString().equals("(true)"), "a loop without an end");
        return super.visitWhileLoop(tree, none);
    }

    @Override
    public Void visitImport(ImportTree tree, Void none) {
        breaks(4, !Set.of("java.util.ArrayList", "java.util.List", "java.util.Arrays", "java.util.Iterator")
            .contains(tree.getQualifiedIdentifier().toString()), "" + tree.getQualifiedIdentifier());
        return null;
    }

    @Override
    public Void visitLambdaExpression(LambdaExpressionTree tree, Void none) {
        breaks(2, true, "a lambda");
        return super.visitLambdaExpression(tree, none);
    }

    @Override
    public Void visitMemberReference(MemberReferenceTree tree, Void none) {
        breaks(2, true, "a method reference");
        return super.visitMemberReference(tree, none);
    }

    @Override
    public Void visitThrow(ThrowTree tree, Void none) {
        breaks(6, true, "throw");
        return super.visitThrow(tree, none);
    }

    @Override
    public Void visitTry(TryTree tree, Void none) {
        breaks(6, true, "try");
        return super.visitTry(tree, none);
    }

    @Override
    public Void visitSynchronized(SynchronizedTree tree, Void none) {
        breaks(6, true, "synchronized");
        return super.visitSynchronized(tree, none);
    }

    @Override
    public Void visitAssert(AssertTree tree, Void none) {
        breaks(6, true, "assert");
        return super.visitAssert(tree, none);
    }

    // ---- names and places

    private Element element(Tree tree) {
        return trees.getElement(trees.getPath(unit, tree));
    }

    private static String nameOf(Element element) {
        Element around = element.getEnclosingElement();
        String name = around.toString();
        return (name.startsWith("PromiseNames") ? name : around.getSimpleName()) + "." + element.getSimpleName();
    }

    private long linesOf(Tree tree) {
        long first = trees.getSourcePositions().getStartPosition(unit, tree);
        long last = trees.getSourcePositions().getEndPosition(unit, tree);
        return unit.getLineMap().getLineNumber(Math.max(last, first)) - unit.getLineMap().getLineNumber(first) + 1;
    }
}
