import com.sun.source.tree.AssertTree;
import com.sun.source.tree.BinaryTree;
import com.sun.source.tree.DoWhileLoopTree;
import com.sun.source.tree.ExpressionTree;
import com.sun.source.tree.ForLoopTree;
import com.sun.source.tree.LambdaExpressionTree;
import com.sun.source.tree.MemberReferenceTree;
import com.sun.source.tree.MethodInvocationTree;
import com.sun.source.tree.MethodTree;
import com.sun.source.tree.NewClassTree;
import com.sun.source.tree.SynchronizedTree;
import com.sun.source.tree.ThrowTree;
import com.sun.source.tree.Tree;
import com.sun.source.tree.TryTree;
import com.sun.source.tree.TypeCastTree;
import com.sun.source.tree.VariableTree;
import com.sun.source.tree.WhileLoopTree;
import com.sun.source.util.JavacTask;
import com.sun.source.util.TreePathScanner;
import com.sun.source.util.TreeScanner;
import com.sun.source.util.Trees;
import java.nio.file.Path;
import java.util.HashSet;
import java.util.List;
import java.util.Map;
import java.util.Set;
import java.util.TreeMap;
import java.util.TreeSet;
import javax.lang.model.element.Element;
import javax.lang.model.element.ElementKind;
import javax.lang.model.element.Modifier;
import javax.lang.model.type.ArrayType;
import javax.lang.model.type.DeclaredType;
import javax.lang.model.type.TypeKind;
import javax.lang.model.type.TypeMirror;
import javax.tools.JavaCompiler;
import javax.tools.StandardJavaFileManager;
import javax.tools.ToolProvider;

/** The rules of LANGUAGE.md that can be seen only in the code itself, as the compiler understands it. */
public final class RulesTest extends TreePathScanner<Void, Void> {
    private static final int DEEPEST = 8;

    /** Rule 4, word by word; overloads that it leaves out are looked at in libraryCall. */
    private static final Map<String, List<String>> LIBRARY = Map.of(
        "java.lang.String", List.of("length", "charAt", "isEmpty", "equals", "indexOf", "substring", "toCharArray"),
        "java.lang.StringBuilder", List.of("append", "charAt", "setCharAt", "setLength", "deleteCharAt", "reverse",
            "length", "toString"),
        "java.util.ArrayList", List.of("add", "get", "set", "remove", "size", "isEmpty", "clear"),
        "java.util.List", List.of("add", "get", "set", "remove", "size", "isEmpty", "clear", "of"),
        "java.lang.Math", List.of("abs", "min", "max", "floorDiv", "floorMod"),
        "java.lang.Integer", List.of("compare", "max", "min", "bitCount", "signum", "numberOfTrailingZeros"),
        "java.lang.Long", List.of("compare", "max", "min", "bitCount", "signum", "numberOfTrailingZeros"),
        "java.lang.System", List.of("arraycopy"),
        "java.util.Arrays", List.of("copyOf", "copyOfRange", "fill"));
    private static final Set<String> CLASSES = Set.of("java.lang.String", "java.lang.StringBuilder",
        "java.lang.Integer", "java.util.ArrayList", "java.util.List");

    private final Trees trees;
    private final Map<String, Set<String>> calls = new TreeMap<>();
    private String method = "";
    private int wrong = 0;

    private RulesTest(Trees trees) {
        this.trees = trees;
    }

    private void must(boolean holds, String what) {
        if (!holds) {
            wrong++;
            System.out.println("not so: " + what + (method.isEmpty() ? "" : " (in " + method + ")"));
        }
    }

    private static String nameOf(Element method) {
        return method.getEnclosingElement() + "." + method.getSimpleName();
    }

    private static boolean isOwn(String owner) {
        return owner.equals("HarrowSaid") || owner.startsWith("HarrowSaid.");
    }

    @Override
    public Void visitMethod(MethodTree tree, Void none) {
        String outer = method;
        method = nameOf(trees.getElement(getCurrentPath()));
        calls.putIfAbsent(method, new TreeSet<>());
        super.visitMethod(tree, none);
        method = outer;
        return null;
    }

    @Override
    public Void visitMethodInvocation(MethodInvocationTree tree, Void none) {
        Element called = trees.getElement(getCurrentPath());
        String owner = called.getEnclosingElement().toString();
        if (isOwn(owner)) {
            calls.get(method).add(nameOf(called));
        } else if (!called.getSimpleName().contentEquals("<init>")) {
            List<String> allowed = LIBRARY.getOrDefault(owner, List.of());
            must(allowed.contains(called.getSimpleName().toString()), "rule 4: " + owner + "." + called);
        }
        return super.visitMethodInvocation(tree, none);
    }

    @Override
    public Void visitNewClass(NewClassTree tree, Void none) {
        must(tree.getClassBody() == null, "rule 2: no anonymous class");
        must(isAllowed(trees.getTypeMirror(getCurrentPath())), "rule 3: new " + tree.getIdentifier());
        return super.visitNewClass(tree, none);
    }

    @Override
    public Void visitVariable(VariableTree tree, Void none) {
        Element variable = trees.getElement(getCurrentPath());
        TypeMirror type = variable.asType();
        must(isAllowed(type), "rule 3: " + tree.getName() + " is of " + type);
        boolean isStatic = variable.getKind() == ElementKind.FIELD && variable.getModifiers().contains(Modifier.STATIC);
        must(!isStatic || variable.getModifiers().contains(Modifier.FINAL), "rule 5: " + tree.getName() + " is final");
        return super.visitVariable(tree, none);
    }

    private static boolean isAllowed(TypeMirror type) {
        if (type.getKind() == TypeKind.ARRAY) {
            TypeMirror part = ((ArrayType) type).getComponentType();
            boolean ofRows = part.getKind() == TypeKind.ARRAY;
            return ofRows ? ((ArrayType) part).getComponentType().getKind().isPrimitive() : isNumberOrOwn(part);
        }
        return isNumberOrOwn(type) || CLASSES.contains(plainName(type));
    }

    private static boolean isNumberOrOwn(TypeMirror type) {
        return type.getKind().isPrimitive() || isOwn(plainName(type));
    }

    private static String plainName(TypeMirror type) {
        return type.getKind() == TypeKind.DECLARED ? ((DeclaredType) type).asElement().toString() : "";
    }

    @Override
    public Void visitBinary(BinaryTree tree, Void none) {
        String type = String.valueOf(trees.getTypeMirror(getCurrentPath()));
        must(!type.equals("java.lang.String"), "rule 10: no joining of texts by +");
        return super.visitBinary(tree, none);
    }

    @Override
    public Void visitTypeCast(TypeCastTree tree, Void none) {
        must(trees.getTypeMirror(getCurrentPath()).getKind().isPrimitive(), "rule 6: a cast only of numbers: " + tree);
        return super.visitTypeCast(tree, none);
    }

    @Override
    public Void visitThrow(ThrowTree tree, Void none) {
        must(false, "rule 6: no throw");
        return null;
    }

    @Override
    public Void visitTry(TryTree tree, Void none) {
        must(false, "rule 6: no try");
        return null;
    }

    @Override
    public Void visitSynchronized(SynchronizedTree tree, Void none) {
        must(false, "rule 6: no synchronized");
        return null;
    }

    @Override
    public Void visitAssert(AssertTree tree, Void none) {
        must(false, "rule 6: no assert");
        return null;
    }

    @Override
    public Void visitLambdaExpression(LambdaExpressionTree tree, Void none) {
        must(false, "rule 2: no lambda");
        return null;
    }

    @Override
    public Void visitMemberReference(MemberReferenceTree tree, Void none) {
        must(false, "rule 2: no method reference");
        return null;
    }

    @Override
    public Void visitForLoop(ForLoopTree tree, Void none) {
        looksAtBound(tree.getCondition());
        must(!tree.getUpdate().isEmpty(), "rule 9: a for loop goes on by itself");
        return super.visitForLoop(tree, none);
    }

    @Override
    public Void visitWhileLoop(WhileLoopTree tree, Void none) {
        looksAtBound(tree.getCondition());
        return super.visitWhileLoop(tree, none);
    }

    @Override
    public Void visitDoWhileLoop(DoWhileLoopTree tree, Void none) {
        looksAtBound(tree.getCondition());
        return super.visitDoWhileLoop(tree, none);
    }

    private void looksAtBound(ExpressionTree condition) {
        Set<Tree.Kind> found = new HashSet<>();
        new TreeScanner<Void, Void>() {
            @Override
            public Void visitBinary(BinaryTree tree, Void none) {
                found.add(tree.getKind());
                return super.visitBinary(tree, none);
            }
        }.scan(condition, null);
        boolean bound = found.contains(Tree.Kind.LESS_THAN) || found.contains(Tree.Kind.LESS_THAN_EQUAL)
            || found.contains(Tree.Kind.GREATER_THAN) || found.contains(Tree.Kind.GREATER_THAN_EQUAL);
        must(bound && !found.contains(Tree.Kind.CONDITIONAL_OR), "rule 9: a loop's bound is seen: " + condition);
    }

    /** How many calls stand open at once; the class has no recursion, so that one would need a look at its guard. */
    private int depthOf(String name, List<String> open) {
        if (open.contains(name)) {
            must(false, "rule 8: " + name + " comes to call itself by " + open);
            return 0;
        }
        List<String> next = new java.util.ArrayList<>(open);
        next.add(name);
        int most = 0;
        for (String called : calls.getOrDefault(name, Set.of())) {
            most = Math.max(most, depthOf(called, next));
        }
        return most + 1;
    }

    public static void main(String[] args) throws Exception {
        JavaCompiler compiler = ToolProvider.getSystemJavaCompiler();
        try (StandardJavaFileManager files = compiler.getStandardFileManager(null, null, null)) {
            JavacTask task = (JavacTask) compiler.getTask(null, files, null, List.of("-proc:none"), null,
                files.getJavaFileObjects(Path.of("src/main/java/HarrowSaid.java")));
            RulesTest rules = new RulesTest(Trees.instance(task));
            Iterable<? extends Tree> units = task.parse();
            task.analyze();
            for (Tree unit : units) {
                rules.scan(new com.sun.source.util.TreePath((com.sun.source.tree.CompilationUnitTree) unit), null);
            }
            int deepest = 0;
            for (String name : rules.calls.keySet()) {
                int depth = rules.depthOf(name, List.of());
                rules.must(depth <= DEEPEST, "rule 11: calls go eight deep at most: " + name + " goes " + depth);
                deepest = Math.max(deepest, depth);
            }
            rules.must(deepest > 1, "there are calls to be seen");
            System.out.println(rules.wrong == 0 ? "the rules are kept, calls go " + deepest + " deep"
                : rules.wrong + " rules are broken");
            if (rules.wrong != 0) {
                System.exit(1);
            }
        }
    }
}
