import com.sun.source.tree.AssertTree;
import com.sun.source.tree.BinaryTree;
import com.sun.source.tree.BlockTree;
import com.sun.source.tree.CatchTree;
import com.sun.source.tree.ClassTree;
import com.sun.source.tree.CompilationUnitTree;
import com.sun.source.tree.CompoundAssignmentTree;
import com.sun.source.tree.DoWhileLoopTree;
import com.sun.source.tree.ForLoopTree;
import com.sun.source.tree.ImportTree;
import com.sun.source.tree.LambdaExpressionTree;
import com.sun.source.tree.MemberReferenceTree;
import com.sun.source.tree.MethodInvocationTree;
import com.sun.source.tree.MethodTree;
import com.sun.source.tree.NewClassTree;
import com.sun.source.tree.SynchronizedTree;
import com.sun.source.tree.ThrowTree;
import com.sun.source.tree.Tree;
import com.sun.source.tree.TryTree;
import com.sun.source.tree.VariableTree;
import com.sun.source.tree.WhileLoopTree;
import com.sun.source.util.JavacTask;
import com.sun.source.util.SourcePositions;
import com.sun.source.util.TreePath;
import com.sun.source.util.TreePathScanner;
import com.sun.source.util.Trees;
import java.io.IOException;
import java.net.URI;
import java.util.ArrayList;
import java.util.Arrays;
import java.util.LinkedHashMap;
import java.util.LinkedHashSet;
import java.util.List;
import java.util.Map;
import java.util.Set;
import java.util.TreeSet;
import javax.lang.model.element.Element;
import javax.lang.model.element.Modifier;
import javax.lang.model.type.TypeMirror;
import javax.tools.JavaCompiler;
import javax.tools.JavaFileObject;
import javax.tools.SimpleJavaFileObject;
import javax.tools.ToolProvider;

/**
 * Reads a source file and tells which rules of LANGUAGE.md it breaks, as far as a file shows it: what
 * stands here is no wider than the rules, and in places narrower (what the class does not need).
 */
final class Language extends TreePathScanner<Void, Void> {
    private static final Set<String> LIBRARY_TYPES = Set.of("String", "StringBuilder", "Integer",
            "ArrayList", "List", "Iterator", "Iterable", "Comparable");
    private static final Set<String> NUMBERS = Set.of("int", "long", "short", "byte", "char",
            "boolean", "double", "float");
    private static final Set<String> CONSTANT_TYPES = Set.of("int", "long", "boolean", "char",
            "String", "int[]", "long[]", "char[]", "byte[]");
    private static final Set<String> EXCEPTIONS = Set.of("IllegalStateException",
            "IllegalArgumentException", "IndexOutOfBoundsException", "ArithmeticException",
            "UnsupportedOperationException", "NoSuchElementException", "RuntimeException");
    private static final Set<String> LIBRARY_CALLS = Set.of("String.length", "String.charAt",
            "String.isEmpty", "String.equals", "String.indexOf", "String.substring",
            "String.toCharArray", "StringBuilder.append", "StringBuilder.charAt",
            "StringBuilder.setCharAt", "StringBuilder.setLength", "StringBuilder.deleteCharAt",
            "StringBuilder.reverse", "StringBuilder.length", "StringBuilder.toString",
            "Integer.compare", "Integer.bitCount", "Integer.max", "Integer.min", "Long.compare",
            "Long.bitCount", "Long.max", "Long.min", "Math.max", "Math.min", "Math.abs",
            "Math.floorDiv", "Math.floorMod", "System.arraycopy", "Arrays.copyOf",
            "Arrays.copyOfRange", "Arrays.fill");
    private static final Set<String> OBJECT_METHODS = Set.of("equals", "hashCode", "toString");

    private final Set<String> broken = new LinkedHashSet<>();
    private final Map<String, Set<String>> calls = new LinkedHashMap<>();
    private final Set<String> ownClasses = new TreeSet<>();
    private final Set<String> publicMethods = new TreeSet<>();
    private final Set<String> privateMethods = new TreeSet<>();
    private final Trees trees;
    private final CompilationUnitTree file;

    private Language(Trees trees, CompilationUnitTree file) {
        this.trees = trees;
        this.file = file;
    }

    /** The rules that the source breaks, as "rule 6: throw in a constructor". */
    static Set<String> broken(String name, String source) throws IOException {
        JavaCompiler compiler = ToolProvider.getSystemJavaCompiler();
        JavaFileObject object = new SimpleJavaFileObject(URI.create("string:///" + name + ".java"),
                JavaFileObject.Kind.SOURCE) {
            @Override
            public CharSequence getCharContent(boolean ignoreErrors) {
                return source;
            }
        };
        JavacTask task = (JavacTask) compiler.getTask(null, null, problem -> { }, List.of("-proc:none"),
                null, List.of(object));
        CompilationUnitTree file = task.parse().iterator().next();
        task.analyze();
        Language language = new Language(Trees.instance(task), file);
        language.readFile();
        return language.broken;
    }

    private void breaks(int rule, String what) {
        broken.add("rule " + rule + ": " + what);
    }

    private void readFile() {
        if (file.getPackage() != null) {
            breaks(1, "a package");
        }
        if (file.getTypeDecls().size() != 1) {
            breaks(1, "more than one class that is in no other");
        }
        for (ImportTree imported : file.getImports()) {
            String name = imported.getQualifiedIdentifier().toString();
            String last = name.substring(name.lastIndexOf('.') + 1);
            boolean allowed = LIBRARY_TYPES.contains(last) || last.equals("Arrays")
                    || last.equals("NoSuchElementException");
            if (imported.isStatic() || !name.equals("java.util." + last) || !allowed) {
                breaks(4, "import of " + name);
            }
        }
        new TreePathScanner<Void, Void>() {
            @Override
            public Void visitClass(ClassTree tree, Void none) {
                ownClasses.add(tree.getSimpleName().toString());
                return super.visitClass(tree, none);
            }
        }.scan(new TreePath(file), null);
        scan(new TreePath(file), null);
        publicMethods.retainAll(privateMethods);
        if (!publicMethods.isEmpty()) {
            breaks(1, "private methods with names of public ones: " + publicMethods);
        }
        if (ownClasses.size() > 12) {
            breaks(11, ownClasses.size() + " classes");
        }
        for (String method : calls.keySet()) {
            goDown(method, new ArrayList<>());
        }
    }

    /** Rule 8 would allow a guarded recursion; there is none, so each one is a slip. */
    private void goDown(String method, List<String> open) {
        if (open.contains(method)) {
            breaks(8, "recursion of " + method);
        } else if (open.size() == 8) {
            breaks(11, "calls nine deep: " + open + " " + method);
        } else {
            open.add(method);
            for (String next : calls.getOrDefault(method, Set.of())) {
                goDown(next, open);
            }
            open.remove(open.size() - 1);
        }
    }

    @Override
    public Void visitClass(ClassTree tree, Void none) {
        String name = tree.getSimpleName().toString();
        Tree parent = getCurrentPath().getParentPath().getLeaf();
        Set<Modifier> modifiers = tree.getModifiers().getFlags();
        boolean outermost = parent instanceof CompilationUnitTree;
        if (outermost && !modifiers.containsAll(List.of(Modifier.PUBLIC, Modifier.FINAL))) {
            breaks(1, "the class is not public and final");
        }
        if (!outermost && !(parent instanceof ClassTree)) {
            breaks(2, "a class inside a method: " + name);
        } else if (!outermost) {
            if (modifiers.contains(Modifier.PUBLIC) || modifiers.contains(Modifier.PROTECTED)) {
                breaks(1, "a class inside that can be seen: " + name);
            }
            if (tree.getKind() == Tree.Kind.CLASS && !modifiers.contains(Modifier.STATIC)) {
                breaks(1, "a class inside that is not static: " + name);
            }
        }
        int fields = 0;
        for (Tree member : tree.getMembers()) {
            if (member instanceof BlockTree) {
                breaks(5, "an initialiser block in " + name);
            }
            if (member instanceof VariableTree) {
                VariableTree field = (VariableTree) member;
                fields += field.getModifiers().getFlags().contains(Modifier.STATIC) ? 0 : 1;
                readField(field, outermost);
            }
        }
        if (fields > 20) {
            breaks(11, fields + " fields in " + name);
        }
        return super.visitClass(tree, none);
    }

    private void readField(VariableTree field, boolean outermost) {
        Set<Modifier> modifiers = field.getModifiers().getFlags();
        String type = field.getType().toString();
        if (modifiers.contains(Modifier.STATIC)) {
            if (!modifiers.contains(Modifier.FINAL) || !CONSTANT_TYPES.contains(type)) {
                breaks(5, "static field " + field.getName());
            }
        } else if (outermost && !modifiers.contains(Modifier.PRIVATE)) {
            breaks(1, "a field that can be seen: " + field.getName());
        }
    }

    @Override
    public Void visitVariable(VariableTree tree, Void none) {
        String type = tree.getType() == null ? "" : tree.getType().toString();
        String plain = type.replace("[]", "").replaceAll("<.*>", "");
        int dimensions = type.split("\\[]", -1).length - 1;
        boolean number = NUMBERS.contains(plain);
        boolean known = number || LIBRARY_TYPES.contains(plain) || ownClasses.contains(plain)
                || EXCEPTIONS.contains(plain);
        if (!known || dimensions > (number ? 2 : 1)) {
            breaks(3, "type of " + tree.getName() + ": " + type);
        }
        return super.visitVariable(tree, none);
    }

    private String written(MethodTree tree) {
        TreePath path = getCurrentPath();
        while (!(path.getLeaf() instanceof ClassTree)) {
            path = path.getParentPath();
        }
        return ((ClassTree) path.getLeaf()).getSimpleName() + "." + tree.getName();
    }

    @Override
    public Void visitMethod(MethodTree tree, Void none) {
        String name = tree.getName().toString();
        Set<Modifier> modifiers = tree.getModifiers().getFlags();
        if (modifiers.contains(Modifier.PUBLIC) && tree.getReturnType() != null) {
            publicMethods.add(name);
        }
        if (modifiers.contains(Modifier.PRIVATE)) {
            privateMethods.add(name);
        }
        if (tree.getParameters().size() > 7) {
            breaks(11, "parameters of " + name);
        }
        if (OBJECT_METHODS.contains(name)) {
            breaks(6, "a " + name + " of its own");
        }
        SourcePositions positions = trees.getSourcePositions();
        long first = file.getLineMap().getLineNumber(positions.getStartPosition(file, tree));
        long last = positions.getEndPosition(file, tree);
        if (last >= 0 && file.getLineMap().getLineNumber(last) - first >= 60) {
            breaks(11, "length of " + name);
        }
        calls.putIfAbsent(written(tree), new LinkedHashSet<>());
        return super.visitMethod(tree, none);
    }

    private MethodTree enclosing() {
        TreePath path = getCurrentPath();
        while (path != null && !(path.getLeaf() instanceof MethodTree)) {
            path = path.getLeaf() instanceof ClassTree ? null : path.getParentPath();
        }
        return path == null ? null : (MethodTree) path.getLeaf();
    }

    private boolean isInside(Class<? extends Tree> kind) {
        for (Tree tree : getCurrentPath()) {
            if (kind.isInstance(tree)) {
                return true;
            }
        }
        return false;
    }

    @Override
    public Void visitMethodInvocation(MethodInvocationTree tree, Void none) {
        Element called = trees.getElement(new TreePath(getCurrentPath(), tree.getMethodSelect()));
        String owner = called == null ? "?" : called.getEnclosingElement().getSimpleName().toString();
        String name = called == null ? "?" : called.getSimpleName().toString();
        boolean copiesArray = name.equals("clone") && owner.equals("Array");
        MethodTree caller = enclosing();
        if (ownClasses.contains(owner)) {
            if (caller != null && !name.equals("<init>")) {
                calls.computeIfAbsent(written(caller), k -> new LinkedHashSet<>())
                        .add(owner + "." + name);
            }
        } else if (!name.equals("<init>") && !copiesArray
                && !LIBRARY_CALLS.contains(owner + "." + name)
                && !owner.equals("List") && !owner.equals("ArrayList")) {
            breaks(4, "call of " + owner + "." + name);
        }
        return super.visitMethodInvocation(tree, none);
    }

    /** Rule 12 would allow more; no call of this class is to make an object. */
    @Override
    public Void visitNewClass(NewClassTree tree, Void none) {
        MethodTree method = enclosing();
        boolean thrown = isInside(ThrowTree.class);
        boolean inConstructor = method == null || method.getName().contentEquals("<init>");
        if (!thrown && !inConstructor) {
            breaks(12, "new " + tree.getIdentifier() + " in " + method.getName());
        }
        if (tree.getClassBody() != null) {
            breaks(2, "a class without a name");
        }
        return super.visitNewClass(tree, none);
    }

    @Override
    public Void visitThrow(ThrowTree tree, Void none) {
        boolean written = tree.getExpression() instanceof NewClassTree && EXCEPTIONS.contains(
                ((NewClassTree) tree.getExpression()).getIdentifier().toString());
        if (!written) {
            breaks(6, "throw of " + tree.getExpression());
        }
        MethodTree method = enclosing();
        if (method != null && method.getName().contentEquals("<init>")) {
            breaks(6, "throw in a constructor");
        }
        if (isInside(TryTree.class)) {
            breaks(6, "throw inside a try");
        }
        return super.visitThrow(tree, none);
    }

    @Override
    public Void visitTry(TryTree tree, Void none) {
        if (tree.getFinallyBlock() != null || !tree.getResources().isEmpty()) {
            breaks(6, "finally, or a try with resources");
        }
        for (CatchTree caught : tree.getCatches()) {
            String type = caught.getParameter().getType().toString();
            // What the machine throws by itself is one of these, or below one of them.
            boolean ofTheMachine = Set.of("IndexOutOfBoundsException", "ArithmeticException",
                    "RuntimeException").contains(type);
            if (!EXCEPTIONS.contains(type) || ofTheMachine) {
                breaks(6, "catch of " + type);
            }
        }
        return super.visitTry(tree, none);
    }

    @Override
    public Void visitForLoop(ForLoopTree tree, Void none) {
        if (tree.getCondition() == null || tree.getUpdate().isEmpty()) {
            breaks(9, "a for without a bound");
        }
        return super.visitForLoop(tree, none);
    }

    private void readCondition(String condition) {
        if (condition.equals("(true)") || !(condition.contains("<") || condition.contains(">"))) {
            breaks(9, "a loop without a bound: " + condition);
        }
    }

    @Override
    public Void visitWhileLoop(WhileLoopTree tree, Void none) {
        readCondition(tree.getCondition().toString());
        return super.visitWhileLoop(tree, none);
    }

    @Override
    public Void visitDoWhileLoop(DoWhileLoopTree tree, Void none) {
        readCondition(tree.getCondition().toString());
        return super.visitDoWhileLoop(tree, none);
    }

    private boolean isText(Tree tree) {
        TypeMirror type = trees.getTypeMirror(new TreePath(getCurrentPath(), tree));
        return type != null && type.toString().equals("java.lang.String");
    }

    private boolean isBoxed(Tree tree) {
        TypeMirror type = trees.getTypeMirror(new TreePath(getCurrentPath(), tree));
        return type != null && type.toString().equals("java.lang.Integer");
    }

    @Override
    public Void visitBinary(BinaryTree tree, Void none) {
        Tree[] sides = {tree.getLeftOperand(), tree.getRightOperand()};
        boolean texts = Arrays.stream(sides).anyMatch(this::isText);
        boolean boxed = Arrays.stream(sides).allMatch(this::isBoxed);
        if (tree.getKind() == Tree.Kind.PLUS && texts) {
            breaks(10, "texts joined by +");
        }
        boolean same = tree.getKind() == Tree.Kind.EQUAL_TO || tree.getKind() == Tree.Kind.NOT_EQUAL_TO;
        boolean withNull = Arrays.stream(sides).anyMatch(side -> side.getKind() == Tree.Kind.NULL_LITERAL);
        if (same && !withNull && (texts || boxed)) {
            breaks(6, "== between texts or Integers");
        }
        return super.visitBinary(tree, none);
    }

    @Override
    public Void visitCompoundAssignment(CompoundAssignmentTree tree, Void none) {
        if (isText(tree.getVariable())) {
            breaks(10, "texts joined by +=");
        }
        return super.visitCompoundAssignment(tree, none);
    }

    @Override
    public Void visitLambdaExpression(LambdaExpressionTree tree, Void none) {
        breaks(2, "a lambda");
        return super.visitLambdaExpression(tree, none);
    }

    @Override
    public Void visitMemberReference(MemberReferenceTree tree, Void none) {
        breaks(2, "a method reference");
        return super.visitMemberReference(tree, none);
    }

    @Override
    public Void visitSynchronized(SynchronizedTree tree, Void none) {
        breaks(6, "synchronized");
        return super.visitSynchronized(tree, none);
    }

    @Override
    public Void visitAssert(AssertTree tree, Void none) {
        breaks(6, "assert");
        return super.visitAssert(tree, none);
    }
}
