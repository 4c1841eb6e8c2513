import com.sun.source.tree.*;
import com.sun.source.util.JavacTask;
import com.sun.source.util.TreePath;
import com.sun.source.util.TreePathScanner;
import com.sun.source.util.Trees;
import java.io.IOException;
import java.util.ArrayList;
import java.util.HashMap;
import java.util.HashSet;
import java.util.List;
import java.util.Map;
import java.util.Set;
import javax.lang.model.element.Element;
import javax.lang.model.element.ElementKind;
import javax.lang.model.element.ExecutableElement;
import javax.lang.model.element.Modifier;
import javax.lang.model.type.TypeKind;
import javax.lang.model.type.TypeMirror;
import javax.tools.JavaCompiler;
import javax.tools.StandardJavaFileManager;
import javax.tools.ToolProvider;

/**
 * The rules of LANGUAGE.md that can be read off the source, by the compiler's own tree. What the class does not use
 * of what they let is not listed here: who comes to use more of it, adds it.
 */
final class LanguageTest extends TreePathScanner<Void, Void> {
    private static final String SOURCE = "src/main/java/Addressloom.java";
    private static final int LONGEST_METHOD = 60;
    private static final int DEEPEST_CALL = 8;
    private static final int MOST_PARAMETERS = 7;
    private static final int MOST_CLASSES = 12;

    private static final Set<String> LIBRARY = Set.of("String.length()", "String.charAt(int)", "String.isEmpty()",
            "String.equals(java.lang.Object)", "String.indexOf(int)", "String.substring(int)",
            "String.substring(int,int)", "StringBuilder.append(char)", "StringBuilder.append(java.lang.String)",
            "StringBuilder.append(int)", "StringBuilder.charAt(int)", "StringBuilder.setLength(int)",
            "StringBuilder.length()", "StringBuilder.toString()", "StringBuilder.StringBuilder()",
            "Math.max(int,int)", "Math.min(int,int)", "Integer.compare(int,int)");
    private static final Set<String> EXCEPTIONS = Set.of("IllegalStateException", "IllegalArgumentException",
            "IndexOutOfBoundsException");
    /** Kinds of code that the rules refuse, or bind so closely that the class does without. */
    private static final Set<Tree.Kind> REFUSED = Set.of(Tree.Kind.LAMBDA_EXPRESSION, Tree.Kind.MEMBER_REFERENCE,
            Tree.Kind.IMPORT, Tree.Kind.PACKAGE, Tree.Kind.TRY, Tree.Kind.SYNCHRONIZED, Tree.Kind.ASSERT,
            Tree.Kind.INSTANCE_OF, Tree.Kind.DIVIDE, Tree.Kind.REMAINDER, Tree.Kind.DIVIDE_ASSIGNMENT,
            Tree.Kind.REMAINDER_ASSIGNMENT, Tree.Kind.SWITCH_EXPRESSION, Tree.Kind.ANNOTATION, Tree.Kind.RECORD,
            Tree.Kind.NULL_LITERAL, Tree.Kind.DOUBLE_LITERAL, Tree.Kind.FLOAT_LITERAL);

    private final Trees trees;
    private final CompilationUnitTree unit;
    private final Map<ExecutableElement, Set<ExecutableElement>> calls = new HashMap<>();
    private ExecutableElement caller;
    private int loops;

    private LanguageTest(JavacTask task, CompilationUnitTree unit) {
        trees = Trees.instance(task);
        this.unit = unit;
    }

    public static void main(String[] args) throws IOException {
        JavaCompiler compiler = ToolProvider.getSystemJavaCompiler();
        try (StandardJavaFileManager files = compiler.getStandardFileManager(null, null, null)) {
            JavacTask task = (JavacTask) compiler.getTask(null, files, null, List.of("-proc:none"), null,
                    files.getJavaFileObjects(SOURCE));
            CompilationUnitTree unit = task.parse().iterator().next();
            task.analyze();
            LanguageTest test = new LanguageTest(task, unit);
            Check.due("1: types beside each other in the file", unit.getTypeDecls().size(), 1);
            test.scan(new TreePath(unit), null);
            test.depths();
        }
        Check.end("LanguageTest");
    }

    private void rule(int number, String told, Tree at, boolean holds) {
        long start = trees.getSourcePositions().getStartPosition(unit, at);
        Check.due(number + ": " + told + ", line " + unit.getLineMap().getLineNumber(start), holds, true);
    }

    private TypeMirror typeOf(Tree tree) {
        return trees.getTypeMirror(TreePath.getPath(unit, tree));
    }

    private boolean isText(Tree tree) {
        return typeOf(tree).toString().equals("java.lang.String");
    }

    private static boolean isOwn(Element element) {
        Element outermost = element;
        while (outermost.getEnclosingElement().getKind() != ElementKind.PACKAGE) {
            outermost = outermost.getEnclosingElement();
        }
        return outermost.getSimpleName().contentEquals("Addressloom");
    }

    @Override
    public Void scan(Tree tree, Void none) {
        if (tree != null) {
            rule(2, "a " + tree.getKind() + " is refused", tree, !REFUSED.contains(tree.getKind()));
        }
        return super.scan(tree, none);
    }

    // ---- rules 1, 2, 5 and 11: classes, fields and methods

    @Override
    public Void visitClass(ClassTree type, Void none) {
        int classes = 1;
        for (Tree member : type.getMembers()) {
            rule(5, "a block that initialises", member, member.getKind() != Tree.Kind.BLOCK);
            classes += member instanceof ClassTree ? 1 : 0;
        }
        rule(11, "at most some twelve classes", type, classes <= MOST_CLASSES);
        rule(2, "no class inside a method", type, caller == null);
        return super.visitClass(type, none);
    }

    @Override
    public Void visitVariable(VariableTree variable, Void none) {
        TypeMirror type = typeOf(variable);
        boolean isLet = isLetType(type.toString()) || type.getKind() == TypeKind.ARRAY
                && isLetType(type.toString().replaceFirst("\\[\\]$", ""));
        rule(3, variable + " is of a type that is let", variable, isLet);
        if (variable.getModifiers().getFlags().contains(Modifier.STATIC)) {
            rule(5, variable + " is a constant", variable, variable.getModifiers().getFlags().contains(Modifier.FINAL)
                    && Set.of("int", "java.lang.String").contains(type.toString()));
        }
        return super.visitVariable(variable, none);
    }

    private static boolean isLetType(String type) {
        return Set.of("int", "long", "char", "boolean", "java.lang.String", "java.lang.StringBuilder").contains(type)
                || type.startsWith("Addressloom.");
    }

    @Override
    public Void visitMethod(MethodTree method, Void none) {
        SourceLines lines = new SourceLines(method);
        rule(11, method.getName() + " stays short", method, lines.many() <= LONGEST_METHOD);
        rule(11, method.getName() + " takes at most seven", method, method.getParameters().size() <= MOST_PARAMETERS);
        rule(6, "no equals, hashCode or toString of its own", method,
                !Set.of("equals", "hashCode", "toString").contains(method.getName().toString()));
        caller = (ExecutableElement) trees.getElement(getCurrentPath());
        calls.put(caller, new HashSet<>());
        super.visitMethod(method, none);
        caller = null;
        return null;
    }

    private final class SourceLines {
        private final Tree tree;

        private SourceLines(Tree tree) {
            this.tree = tree;
        }

        private long many() {
            long from = trees.getSourcePositions().getStartPosition(unit, tree);
            long to = trees.getSourcePositions().getEndPosition(unit, tree);
            return unit.getLineMap().getLineNumber(to) - unit.getLineMap().getLineNumber(from) + 1;
        }
    }

    // ---- rules 4 and 13: the library

    @Override
    public Void visitMethodInvocation(MethodInvocationTree call, Void none) {
        ExecutableElement called = (ExecutableElement) trees.getElement(getCurrentPath());
        use(called, call, call.getArguments());
        return super.visitMethodInvocation(call, none);
    }

    @Override
    public Void visitNewClass(NewClassTree made, Void none) {
        ExecutableElement called = (ExecutableElement) trees.getElement(getCurrentPath());
        boolean isThrown = getCurrentPath().getParentPath().getLeaf().getKind() == Tree.Kind.THROW;
        if (!isThrown) {
            use(called, made, made.getArguments());
        }
        rule(12, "an object made in a loop that is told by while", made, loops == 0);
        rule(2, "no anonymous class", made, made.getClassBody() == null);
        return super.visitNewClass(made, none);
    }

    private void use(ExecutableElement called, Tree at, List<? extends ExpressionTree> arguments) {
        // the compiler tells some of a StringBuilder's methods by the hidden class above it
        String type = called.getEnclosingElement().getSimpleName().toString().replace("AbstractString", "String");
        String name = type + "." + called;
        boolean isObject = name.equals("Object.Object()");
        if (isOwn(called) && caller != null) {
            calls.get(caller).add(called);
        }
        rule(4, name + " is let", at, isOwn(called) || isObject || LIBRARY.contains(name));
        if (name.equals("String.indexOf(int)")) {
            rule(4, "indexOf() of a char alone", at, typeOf(arguments.get(0)).getKind() == TypeKind.CHAR);
        }
    }

    @Override
    public Void visitLiteral(LiteralTree literal, Void none) {
        if (literal.getValue() instanceof String || literal.getValue() instanceof Character) {
            boolean isLet = literal.getValue().toString().chars().allMatch(sign -> sign >= 1 && sign <= 127);
            rule(4, literal + " has signs 1 to 127", literal, isLet);
        }
        return super.visitLiteral(literal, none);
    }

    // ---- rules 6, 10 and 12: throws, texts, loops

    @Override
    public Void visitThrow(ThrowTree thrown, Void none) {
        boolean isLet = thrown.getExpression() instanceof NewClassTree made
                && EXCEPTIONS.contains(made.getIdentifier().toString())
                && made.getArguments().stream().allMatch(told -> told.getKind() == Tree.Kind.STRING_LITERAL);
        rule(6, thrown + " throws what is let, with a written text", thrown, isLet);
        rule(6, "no throw in a constructor", thrown, caller.getKind() == ElementKind.METHOD);
        return super.visitThrow(thrown, none);
    }

    @Override
    public Void visitBinary(BinaryTree binary, Void none) {
        boolean hasText = isText(binary.getLeftOperand()) || isText(binary.getRightOperand());
        rule(6, binary + " holds or joins no texts", binary, !hasText);
        return super.visitBinary(binary, none);
    }

    @Override
    public Void visitCompoundAssignment(CompoundAssignmentTree assigned, Void none) {
        rule(10, assigned + " joins no texts", assigned, !isText(assigned.getVariable()));
        return super.visitCompoundAssignment(assigned, none);
    }

    @Override
    public Void visitSwitch(SwitchTree chosen, Void none) {
        rule(10, "a switch on numbers", chosen, typeOf(chosen.getExpression()).getKind() == TypeKind.INT);
        return super.visitSwitch(chosen, none);
    }

    @Override
    public Void visitTypeCast(TypeCastTree cast, Void none) {
        rule(6, cast + " is a cast of a number", cast, typeOf(cast).getKind().isPrimitive());
        return super.visitTypeCast(cast, none);
    }

    @Override
    public Void visitWhileLoop(WhileLoopTree loop, Void none) {
        loops++;
        super.visitWhileLoop(loop, none);
        loops--;
        return null;
    }

    @Override
    public Void visitDoWhileLoop(DoWhileLoopTree loop, Void none) {
        loops++;
        super.visitDoWhileLoop(loop, none);
        loops--;
        return null;
    }

    // ---- rules 8 and 11: how deep calls go

    private void depths() {
        for (ExecutableElement method : calls.keySet()) {
            List<ExecutableElement> way = deepest(method, new ArrayList<>());
            Check.due("11: calls go at most eight deep: " + way, way.size() <= DEEPEST_CALL, true);
        }
    }

    /** The longest row of calls that begins with a method; a method that comes back to itself ends it. */
    private List<ExecutableElement> deepest(ExecutableElement from, List<ExecutableElement> behind) {
        List<ExecutableElement> way = new ArrayList<>(behind);
        Check.due("8: no recursion in " + from, way.contains(from), false);
        boolean isBack = way.contains(from);
        way.add(from);
        List<ExecutableElement> longest = way;
        if (!isBack) {
            for (ExecutableElement called : new ArrayList<>(calls.getOrDefault(from, Set.of()))) {
                List<ExecutableElement> next = deepest(called, way);
                longest = next.size() > longest.size() ? next : longest;
            }
        }
        return longest;
    }
}
