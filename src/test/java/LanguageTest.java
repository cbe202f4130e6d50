import com.sun.source.tree.ArrayAccessTree;
import com.sun.source.tree.BinaryTree;
import com.sun.source.tree.BlockTree;
import com.sun.source.tree.ClassTree;
import com.sun.source.tree.CompilationUnitTree;
import com.sun.source.tree.CompoundAssignmentTree;
import com.sun.source.tree.EnhancedForLoopTree;
import com.sun.source.tree.ExpressionTree;
import com.sun.source.tree.ForLoopTree;
import com.sun.source.tree.MethodInvocationTree;
import com.sun.source.tree.MethodTree;
import com.sun.source.tree.NewArrayTree;
import com.sun.source.tree.NewClassTree;
import com.sun.source.tree.ThrowTree;
import com.sun.source.tree.Tree;
import com.sun.source.tree.VariableTree;
import com.sun.source.util.JavacTask;
import com.sun.source.util.TreePath;
import com.sun.source.util.TreePathScanner;
import com.sun.source.util.Trees;
import java.io.IOException;
import java.nio.file.Files;
import java.nio.file.Path;
import java.util.EnumSet;
import java.util.List;
import java.util.Map;
import java.util.Set;
import java.util.TreeMap;
import java.util.TreeSet;
import javax.lang.model.element.Element;
import javax.lang.model.element.Modifier;
import javax.lang.model.type.TypeKind;
import javax.lang.model.type.TypeMirror;
import javax.tools.JavaCompiler;
import javax.tools.StandardJavaFileManager;
import javax.tools.ToolProvider;

/**
 * The rules of ../shared/LANGUAGE.md, with their numbers, as far as the compiler's tree of the class
 * can tell them. It asks for what the class is made of, which is less than the rules leave: who
 * brings in something else that they allow adds it here. FaceTest looks at rule 1.
 */
public final class LanguageTest extends TreePathScanner<Void, Void> {
    private static final Path FILE = Path.of("src/main/java/CarrierDesk.java");
    private static final int MAX_LINES = 60;
    private static final int MAX_PARAMETERS = 7;
    private static final int MAX_DEPTH = 8;
    private static final int MAX_CLASSES = 12;
    private static final int MAX_FIELDS = 20;

    /** Kinds of trees that the class may be made of; a lambda, a try, a while are none of them. */
    private static final Set<Tree.Kind> KINDS = EnumSet.of(Tree.Kind.COMPILATION_UNIT,
            Tree.Kind.IMPORT, Tree.Kind.CLASS, Tree.Kind.METHOD, Tree.Kind.VARIABLE,
            Tree.Kind.MODIFIERS, Tree.Kind.PRIMITIVE_TYPE, Tree.Kind.ARRAY_TYPE,
            Tree.Kind.IDENTIFIER, Tree.Kind.MEMBER_SELECT, Tree.Kind.BLOCK, Tree.Kind.IF,
            Tree.Kind.FOR_LOOP, Tree.Kind.ENHANCED_FOR_LOOP, Tree.Kind.RETURN, Tree.Kind.THROW,
            Tree.Kind.EXPRESSION_STATEMENT, Tree.Kind.METHOD_INVOCATION, Tree.Kind.NEW_CLASS,
            Tree.Kind.NEW_ARRAY, Tree.Kind.ARRAY_ACCESS, Tree.Kind.ASSIGNMENT,
            Tree.Kind.PARENTHESIZED, Tree.Kind.CONDITIONAL_EXPRESSION, Tree.Kind.INT_LITERAL,
            Tree.Kind.LONG_LITERAL, Tree.Kind.NULL_LITERAL, Tree.Kind.STRING_LITERAL,
            Tree.Kind.POSTFIX_INCREMENT, Tree.Kind.LOGICAL_COMPLEMENT, Tree.Kind.UNARY_MINUS,
            Tree.Kind.PLUS, Tree.Kind.MINUS, Tree.Kind.MULTIPLY, Tree.Kind.DIVIDE,
            Tree.Kind.REMAINDER, Tree.Kind.LEFT_SHIFT, Tree.Kind.AND, Tree.Kind.CONDITIONAL_AND,
            Tree.Kind.CONDITIONAL_OR, Tree.Kind.EQUAL_TO, Tree.Kind.NOT_EQUAL_TO,
            Tree.Kind.LESS_THAN, Tree.Kind.LESS_THAN_EQUAL, Tree.Kind.GREATER_THAN,
            Tree.Kind.GREATER_THAN_EQUAL, Tree.Kind.PLUS_ASSIGNMENT, Tree.Kind.DIVIDE_ASSIGNMENT,
            Tree.Kind.OR_ASSIGNMENT);
    private static final Set<String> OWN = Set.of("CarrierDesk", "CarrierDesk.Source",
            "CarrierDesk.Call", "CarrierDesk.Rate", "CarrierDesk.Carrier");
    private static final Set<String> VALUES = Set.of("int", "long", "boolean", "void", "int[]",
            "long[]");
    private static final Set<String> LIBRARY = Set.of("java.lang.Math.abs(int)",
            "java.lang.Math.max(int,int)", "java.lang.Math.min(int,int)");
    private static final Set<String> EXCEPTIONS = Set.of("java.lang.IllegalStateException",
            "java.lang.IllegalArgumentException", "java.lang.IndexOutOfBoundsException",
            "java.util.NoSuchElementException");

    private final Expect expect = new Expect("language");
    private final String source;
    private final Trees trees;
    private final CompilationUnitTree unit;
    private final Map<String, Set<String>> callees = new TreeMap<>();
    private int classes;
    private String method = "";
    private boolean inConstructor;

    private LanguageTest(String source, JavacTask task, CompilationUnitTree unit) {
        this.source = source;
        this.trees = Trees.instance(task);
        this.unit = unit;
    }

    public static void main(String[] args) throws IOException {
        JavaCompiler compiler = ToolProvider.getSystemJavaCompiler();
        try (StandardJavaFileManager files = compiler.getStandardFileManager(null, null, null)) {
            JavacTask task = (JavacTask) compiler.getTask(null, files, null,
                    List.of("-proc:none"), null, files.getJavaFileObjects(FILE));
            CompilationUnitTree unit = task.parse().iterator().next();
            task.analyze();
            LanguageTest test = new LanguageTest(Files.readString(FILE), task, unit);
            test.scan(new TreePath(unit), null);
            test.whole();
        }
    }

    private void whole() {
        expect.look("rule 4: signs beyond 127", "false",
                "" + source.chars().anyMatch(sign -> sign > 127));
        expect.look("no package line", "true", "" + (unit.getPackageName() == null));
        expect.same("one public class", 1, unit.getTypeDecls().size());
        expect.look("rule 11: " + classes + " classes", "true", "" + (classes <= MAX_CLASSES));
        for (String each : callees.keySet()) {
            int depth = depth(each, 1);
            expect.look("rules 8 and 11: no recursion, " + depth + " calls deep: " + each, "true",
                    "" + (depth <= MAX_DEPTH));
        }
        expect.end();
    }

    /** One more than allowed where the calls go round in a ring. */
    private int depth(String name, int above) {
        int deepest = above;
        for (String callee : callees.getOrDefault(name, Set.of())) {
            if (above <= MAX_DEPTH) {
                deepest = Math.max(deepest, depth(callee, above + 1));
            }
        }
        return deepest;
    }

    private void rule(String what, boolean kept, Tree tree) {
        long place = trees.getSourcePositions().getStartPosition(unit, tree);
        expect.look("line " + unit.getLineMap().getLineNumber(place) + ": rule " + what + ": "
                + tree.toString().lines().findFirst().orElse(""), "true", "" + kept);
    }

    private TypeMirror typeOf(Tree tree) {
        return trees.getTypeMirror(new TreePath(getCurrentPath(), tree));
    }

    private boolean isConstant(ExpressionTree tree) {
        Element named = trees.getElement(new TreePath(getCurrentPath(), tree));
        return tree.getKind() == Tree.Kind.INT_LITERAL || tree.getKind() == Tree.Kind.LONG_LITERAL
                || named instanceof javax.lang.model.element.VariableElement constant
                && constant.getConstantValue() != null;
    }

    @Override
    public Void scan(Tree tree, Void nothing) {
        if (tree != null && !KINDS.contains(tree.getKind())) {
            rule("2, 3, 6, 8, 9 or 10 (" + tree.getKind() + ")", false, tree);
        }
        return super.scan(tree, nothing);
    }

    @Override
    public Void visitClass(ClassTree tree, Void nothing) {
        classes++;
        Set<Modifier> flags = tree.getModifiers().getFlags();
        boolean outer = tree.getSimpleName().contentEquals("CarrierDesk");
        rule("2 (nested classes are static, none local)",
                outer || flags.contains(Modifier.STATIC)
                && getCurrentPath().getParentPath().getLeaf() instanceof ClassTree, tree);
        int fields = 0;
        for (Tree member : tree.getMembers()) {
            rule("5 (no initialiser blocks)", !(member instanceof BlockTree), member);
            if (member instanceof VariableTree field) {
                Set<Modifier> marks = field.getModifiers().getFlags();
                boolean ofClass = marks.contains(Modifier.STATIC);
                rule("5 (static fields are final constants)", !ofClass
                        || marks.contains(Modifier.FINAL) && field.getInitializer() != null
                        && typeOf(field).getKind() == TypeKind.INT, field);
                fields += ofClass ? 0 : 1;
            }
        }
        rule("11 (" + fields + " fields)", fields <= MAX_FIELDS, tree);
        return super.visitClass(tree, nothing);
    }

    @Override
    public Void visitMethod(MethodTree tree, Void nothing) {
        method = trees.getElement(getCurrentPath()).getEnclosingElement() + "."
                + trees.getElement(getCurrentPath());
        callees.put(method, new TreeSet<>());
        rule("11 (parameters)", tree.getParameters().size() <= MAX_PARAMETERS, tree);
        long begin = trees.getSourcePositions().getStartPosition(unit, tree);
        long end = trees.getSourcePositions().getEndPosition(unit, tree);
        long lines = unit.getLineMap().getLineNumber(Math.max(begin, end))
                - unit.getLineMap().getLineNumber(begin) + 1;
        rule("11 (" + lines + " lines)", lines <= MAX_LINES, tree);
        String name = tree.getName().toString();
        rule("6 (no equals, hashCode, toString)",
                !Set.of("equals", "hashCode", "toString").contains(name), tree);
        inConstructor = tree.getReturnType() == null;
        return super.visitMethod(tree, nothing);
    }

    @Override
    public Void visitVariable(VariableTree tree, Void nothing) {
        String type = typeOf(tree).toString();
        String part = type.endsWith("[]") ? type.substring(0, type.length() - 2) : type;
        rule("3 (" + type + ")", VALUES.contains(type) || OWN.contains(part), tree);
        return super.visitVariable(tree, nothing);
    }

    @Override
    public Void visitMethodInvocation(MethodInvocationTree tree, Void nothing) {
        Element called = trees.getElement(getCurrentPath());
        String name = called.getEnclosingElement() + "." + called;
        if (!called.getSimpleName().contentEquals("<init>")) {
            rule("4 (the library): " + name, OWN.contains(called.getEnclosingElement().toString())
                    || LIBRARY.contains(name), tree);
            callees.getOrDefault(method, new TreeSet<>()).add(name);
        }
        return super.visitMethodInvocation(tree, nothing);
    }

    @Override
    public Void visitThrow(ThrowTree tree, Void nothing) {
        boolean kept = tree.getExpression() instanceof NewClassTree made
                && EXCEPTIONS.contains(typeOf(made).toString())
                && made.getArguments().stream()
                        .allMatch(text -> text.getKind() == Tree.Kind.STRING_LITERAL);
        rule("6 (throw new E with a written text)", kept, tree);
        rule("6 (no throw in a constructor)", !inConstructor, tree);
        return super.visitThrow(tree, nothing);
    }

    @Override
    public Void visitNewClass(NewClassTree tree, Void nothing) {
        String type = typeOf(tree).toString();
        boolean thrown = getCurrentPath().getParentPath().getLeaf() instanceof ThrowTree;
        rule("4 and 12 (what is made)", thrown || OWN.contains(type), tree);
        callees.getOrDefault(method, new TreeSet<>()).add(type + "."
                + trees.getElement(getCurrentPath()));
        return super.visitNewClass(tree, nothing);
    }

    @Override
    public Void visitNewArray(NewArrayTree tree, Void nothing) {
        rule("7 (the length of an array)", tree.getDimensions().size() == 1
                && constantIn(tree.getDimensions().get(0)), tree);
        return super.visitNewArray(tree, nothing);
    }

    private boolean constantIn(ExpressionTree tree) {
        return tree instanceof BinaryTree both
                ? constantIn(both.getLeftOperand()) && constantIn(both.getRightOperand())
                : isConstant(tree);
    }

    /** A loop counts from a beginning to an end, or goes over an array. */
    @Override
    public Void visitForLoop(ForLoopTree tree, Void nothing) {
        rule("9 (the loop's end)", tree.getCondition() != null
                && tree.getCondition().toString().matches("\\w+ <=? .*")
                && tree.getUpdate().size() == 1 && tree.getUpdate().get(0).getExpression()
                        .getKind() == Tree.Kind.POSTFIX_INCREMENT, tree);
        return super.visitForLoop(tree, nothing);
    }

    @Override
    public Void visitEnhancedForLoop(EnhancedForLoopTree tree, Void nothing) {
        rule("9 and 12 (a loop over an array)",
                typeOf(tree.getExpression()).getKind() == TypeKind.ARRAY, tree);
        return super.visitEnhancedForLoop(tree, nothing);
    }

    @Override
    public Void visitArrayAccess(ArrayAccessTree tree, Void nothing) {
        rule("7 (an index that has been looked at)",
                tree.getIndex().getKind() == Tree.Kind.IDENTIFIER, tree);
        return super.visitArrayAccess(tree, nothing);
    }

    @Override
    public Void visitBinary(BinaryTree tree, Void nothing) {
        boolean divides = tree.getKind() == Tree.Kind.DIVIDE
                || tree.getKind() == Tree.Kind.REMAINDER;
        rule("7 (a divisor)", !divides || isConstant(tree.getRightOperand())
                || method.contains("quotientUp"), tree);
        rule("10 (no texts joined)", typeOf(tree).getKind().isPrimitive(), tree);
        return super.visitBinary(tree, nothing);
    }

    @Override
    public Void visitCompoundAssignment(CompoundAssignmentTree tree, Void nothing) {
        rule("7 (a divisor)", tree.getKind() != Tree.Kind.DIVIDE_ASSIGNMENT
                || isConstant(tree.getExpression()), tree);
        return super.visitCompoundAssignment(tree, nothing);
    }
}
