import com.sun.source.tree.ArrayAccessTree;
import com.sun.source.tree.BinaryTree;
import com.sun.source.tree.ClassTree;
import com.sun.source.tree.CompilationUnitTree;
import com.sun.source.tree.CompoundAssignmentTree;
import com.sun.source.tree.ExpressionTree;
import com.sun.source.tree.ForLoopTree;
import com.sun.source.tree.IdentifierTree;
import com.sun.source.tree.LiteralTree;
import com.sun.source.tree.MethodInvocationTree;
import com.sun.source.tree.MethodTree;
import com.sun.source.tree.NewArrayTree;
import com.sun.source.tree.NewClassTree;
import com.sun.source.tree.Tree;
import com.sun.source.util.JavacTask;
import com.sun.source.util.SourcePositions;
import com.sun.source.util.TreePathScanner;
import com.sun.source.util.TreeScanner;
import com.sun.source.util.Trees;
import java.io.IOException;
import java.util.Arrays;
import java.util.HashSet;
import java.util.LinkedHashMap;
import java.util.LinkedHashSet;
import java.util.List;
import java.util.Map;
import java.util.Set;
import java.util.regex.Pattern;
import javax.lang.model.element.Element;
import javax.tools.JavaCompiler;
import javax.tools.StandardJavaFileManager;
import javax.tools.ToolProvider;

/** The source as javac reads it, held against the rules of ../shared/LANGUAGE.md that a reader of code can see. */
public final class RulesTest extends TreePathScanner<Void, Void> {
    private static final String SOURCE = "src/main/java/SumsThatDiffer.java";
    private static final int LONGEST_METHOD = 60;
    private static final int DEEPEST_CALLS = 8;
    private static final Set<String> LIBRARY = new HashSet<>(Arrays.asList(
            "java.lang.Integer.bitCount(int)", "java.lang.Math.max(int,int)", "java.lang.Math.min(int,int)",
            "java.lang.Object.Object()", "java.lang.String.charAt(int)", "java.lang.String.length()",
            "java.lang.System.arraycopy(java.lang.Object,int,java.lang.Object,int,int)", "java.util.Arrays.fill(int[],int)"));
    // what the program is made of; another kind of code may be within the rules, too, but is looked at first
    private static final Set<String> KINDS = new HashSet<>(Arrays.asList((
            "AND ARRAY_ACCESS ARRAY_TYPE ASSIGNMENT BITWISE_COMPLEMENT BLOCK BOOLEAN_LITERAL BREAK CASE CHAR_LITERAL CLASS "
            + "COMPILATION_UNIT CONDITIONAL_AND CONDITIONAL_EXPRESSION CONDITIONAL_OR DIVIDE DIVIDE_ASSIGNMENT EQUAL_TO "
            + "EXPRESSION_STATEMENT FOR_LOOP GREATER_THAN GREATER_THAN_EQUAL IDENTIFIER IF IMPORT INT_LITERAL LEFT_SHIFT "
            + "LESS_THAN LESS_THAN_EQUAL LOGICAL_COMPLEMENT LONG_LITERAL MEMBER_SELECT METHOD METHOD_INVOCATION MINUS MODIFIERS "
            + "MULTIPLY MULTIPLY_ASSIGNMENT NEW_ARRAY NEW_CLASS NOT_EQUAL_TO OR OR_ASSIGNMENT PARENTHESIZED PLUS PLUS_ASSIGNMENT "
            + "POSTFIX_DECREMENT POSTFIX_INCREMENT PRIMITIVE_TYPE REMAINDER RETURN STRING_LITERAL SWITCH TYPE_CAST UNARY_MINUS "
            + "VARIABLE XOR_ASSIGNMENT").split(" ")));

    private final Due due = new Due("RulesTest");
    private final CompilationUnitTree unit;
    private final Trees trees;
    private final SourcePositions positions;
    private final Map<Element, Set<Element>> calls = new LinkedHashMap<>();
    private Element caller;
    private String method = "";
    private int classes;

    public static void main(String[] args) throws IOException {
        JavaCompiler javac = ToolProvider.getSystemJavaCompiler();
        try (StandardJavaFileManager files = javac.getStandardFileManager(null, null, null)) {
            JavacTask task = (JavacTask) javac.getTask(null, files, null, List.of("-proc:none"), null, files.getJavaFileObjects(SOURCE));
            CompilationUnitTree unit = task.parse().iterator().next();
            task.analyze();
            new RulesTest(unit, Trees.instance(task)).readAll();
        }
    }

    private RulesTest(CompilationUnitTree unit, Trees trees) {
        this.unit = unit;
        this.trees = trees;
        positions = trees.getSourcePositions();
    }

    private void readAll() {
        scan(unit, null);
        holds("rule 11: some twelve classes, these are " + classes, classes <= 12);
        for (Element face : calls.keySet()) {
            int deep = depth(face, new LinkedHashSet<>());
            holds("rule 11: calls of " + face + " go at most eight deep, these go " + deep, deep <= DEEPEST_CALLS);
        }
        due.end();
    }

    private void holds(String what, boolean held) {
        due.is(what, held ? 1 : 0, 1);
    }

    private int depth(Element from, Set<Element> open) {
        holds("rule 8: " + from + " calls itself at last", !open.contains(from));
        if (!open.add(from)) {
            return 0;
        }
        int deepest = 0;
        for (Element called : calls.getOrDefault(from, Set.of())) {
            deepest = Math.max(deepest, depth(called, open));
        }
        open.remove(from);
        return deepest + 1;
    }

    private String at(Tree tree) {
        return " in line " + unit.getLineMap().getLineNumber(positions.getStartPosition(unit, tree)) + ": " + tree;
    }

    @Override
    public Void scan(Tree tree, Void v) {
        if (tree != null) {
            holds("of another kind, " + tree.getKind() + at(tree), KINDS.contains(tree.getKind().toString()));
        }
        return super.scan(tree, v);
    }

    @Override
    public Void visitClass(ClassTree tree, Void v) {
        classes++;
        return super.visitClass(tree, v);
    }

    @Override
    public Void visitMethod(MethodTree tree, Void v) {
        caller = trees.getElement(getCurrentPath());
        method = tree.toString();
        calls.put(caller, new LinkedHashSet<>());
        long first = unit.getLineMap().getLineNumber(positions.getStartPosition(unit, tree));
        long last = unit.getLineMap().getLineNumber(positions.getEndPosition(unit, tree));
        holds("rule 11: " + tree.getName() + " is short", last - first < LONGEST_METHOD);
        holds("rule 11: " + tree.getName() + " takes at most seven", tree.getParameters().size() <= 7);
        super.visitMethod(tree, v);
        caller = null;
        method = "";
        return null;
    }

    @Override
    public Void visitMethodInvocation(MethodInvocationTree tree, Void v) {
        Element called = trees.getElement(getCurrentPath());
        String owner = called.getEnclosingElement().toString();
        if (!owner.startsWith("SumsThatDiffer")) {
            holds("rule 4: the library" + at(tree), LIBRARY.contains(owner + "." + called));
        }
        if (caller != null) {
            calls.get(caller).add(called);
        }
        return super.visitMethodInvocation(tree, v);
    }

    /** Stricter than rule 12: so nothing that a run makes need be counted. */
    private void madeInAConstructor(Tree tree) {
        holds("made by a call" + at(tree), caller == null || caller.getSimpleName().contentEquals("<init>"));
    }

    @Override
    public Void visitNewClass(NewClassTree tree, Void v) {
        madeInAConstructor(tree);
        return super.visitNewClass(tree, v);
    }

    @Override
    public Void visitNewArray(NewArrayTree tree, Void v) {
        madeInAConstructor(tree);
        for (ExpressionTree length : tree.getDimensions()) {
            lookedAt("rule 7: a length", length, at(tree));
        }
        return super.visitNewArray(tree, v);
    }

    @Override
    public Void visitArrayAccess(ArrayAccessTree tree, Void v) {
        lookedAt("rule 7: an index", tree.getIndex(), at(tree));
        return super.visitArrayAccess(tree, v);
    }

    @Override
    public Void visitBinary(BinaryTree tree, Void v) {
        if (tree.getKind() == Tree.Kind.DIVIDE || tree.getKind() == Tree.Kind.REMAINDER) {
            divisor(tree.getRightOperand(), at(tree));
        }
        if (tree.getKind() == Tree.Kind.PLUS) {
            boolean text = tree.getLeftOperand().toString().contains("\"") || tree.getRightOperand().toString().contains("\"");
            holds("rule 10: texts joined" + at(tree), !text);
        }
        return super.visitBinary(tree, v);
    }

    @Override
    public Void visitCompoundAssignment(CompoundAssignmentTree tree, Void v) {
        if (tree.getKind() == Tree.Kind.DIVIDE_ASSIGNMENT) {
            divisor(tree.getExpression(), at(tree));
        }
        return super.visitCompoundAssignment(tree, v);
    }

    private void divisor(ExpressionTree tree, String at) {
        boolean written = tree instanceof LiteralTree && !tree.toString().matches("0L?");
        holds("rule 7: a divisor is looked at" + at, written || method.matches("(?s).*\\b" + tree + " (!= 0|> 0|<= 0).*"));
    }

    /** Each name that an index or a length is made of is compared, or asked for as a ROAD, a PLACE, in the very method. */
    private void lookedAt(String what, ExpressionTree index, String at) {
        Set<String> names = new HashSet<>();
        new TreeScanner<Void, Void>() {
            @Override
            public Void visitIdentifier(IdentifierTree name, Void v) {
                names.add(name.getName().toString());
                return null;
            }
        }.scan(index, null);
        for (String name : names) {
            String word = Pattern.quote(name) + "\\b";
            boolean constant = name.equals(name.toUpperCase());
            boolean compared = Pattern.compile("\\b" + word + " (<|>|<=|>=) |(<|>|<=|>=) " + word).matcher(method).find();
            boolean asked = Pattern.compile("\\b(hasRoad|hasPlace)\\(" + word + "\\)").matcher(method).find();
            holds(what + " is looked at, " + name + at, constant || compared || asked);
        }
    }

    @Override
    public Void visitForLoop(ForLoopTree tree, Void v) {
        boolean counts = tree.getInitializer().size() == 1 && tree.getUpdate().size() == 1 && tree.getCondition() != null;
        String counter = counts ? tree.getInitializer().get(0).toString().replaceAll("^int (\\w+) = .*$", "$1") : "";
        holds("rule 9: a counter" + at(tree), counts && tree.getUpdate().get(0).toString().equals(counter + "++;"));
        holds("rule 9: a bound" + at(tree), counts && Pattern.compile("\\b" + counter + " <=? ").matcher(tree.getCondition().toString()).find());
        holds("rule 9: the counter stays" + at(tree), !Pattern.compile("\\b" + counter + " [-+]?= ").matcher(tree.getStatement().toString()).find());
        return super.visitForLoop(tree, v);
    }
}
