import com.sun.source.tree.ArrayAccessTree;
import com.sun.source.tree.ArrayTypeTree;
import com.sun.source.tree.AssignmentTree;
import com.sun.source.tree.BinaryTree;
import com.sun.source.tree.BlockTree;
import com.sun.source.tree.ClassTree;
import com.sun.source.tree.CompoundAssignmentTree;
import com.sun.source.tree.EnhancedForLoopTree;
import com.sun.source.tree.ExpressionTree;
import com.sun.source.tree.ForLoopTree;
import com.sun.source.tree.IdentifierTree;
import com.sun.source.tree.ImportTree;
import com.sun.source.tree.LiteralTree;
import com.sun.source.tree.MemberSelectTree;
import com.sun.source.tree.MethodInvocationTree;
import com.sun.source.tree.MethodTree;
import com.sun.source.tree.NewArrayTree;
import com.sun.source.tree.NewClassTree;
import com.sun.source.tree.Tree;
import com.sun.source.tree.UnaryTree;
import com.sun.source.tree.VariableTree;
import com.sun.source.util.TreePath;
import java.io.IOException;
import java.nio.file.Files;
import java.nio.file.Path;
import java.util.EnumSet;
import java.util.List;
import java.util.Set;
import java.util.TreeSet;
import java.util.regex.Pattern;
import javax.lang.model.element.Element;
import javax.lang.model.element.Modifier;
import javax.lang.model.element.VariableElement;

/** The rules of the language, from the first to the last, each under its words. */
public final class LanguageTest {
    private static final Set<String> TYPES = Set.of("int", "long", "short", "byte", "char", "boolean", "void",
        "String", "StringBuilder", "Integer", "ArrayList", "List");
    private static final Set<String> CONSTANTS = Set.of("int", "long", "boolean", "char", "String");
    private static final Set<String> CONSTANT_ROWS = Set.of("int[]", "long[]", "char[]", "byte[]");
    private static final Pattern LIBRARY = Pattern.compile("java\\.lang\\.(Integer|Long|Math)\\.(?!.*Exact$)\\w+"
        + "|java\\.lang\\.System\\.arraycopy|java\\.util\\.Arrays\\.(copyOf|copyOfRange|fill)|Array\\.clone");
    private static final Set<Tree.Kind> FORBIDDEN = EnumSet.of(Tree.Kind.THROW, Tree.Kind.TRY, Tree.Kind.CATCH,
        Tree.Kind.SYNCHRONIZED, Tree.Kind.ASSERT, Tree.Kind.BINDING_PATTERN, Tree.Kind.ANNOTATION);
    private static final Set<Tree.Kind> NOT_USED = EnumSet.of(Tree.Kind.TYPE_CAST, Tree.Kind.INSTANCE_OF,
        Tree.Kind.STRING_LITERAL, Tree.Kind.DOUBLE_LITERAL, Tree.Kind.FLOAT_LITERAL, Tree.Kind.WHILE_LOOP,
        Tree.Kind.DO_WHILE_LOOP);
    private static final Set<Tree.Kind> BOUNDS = EnumSet.of(Tree.Kind.LESS_THAN, Tree.Kind.LESS_THAN_EQUAL,
        Tree.Kind.GREATER_THAN_EQUAL, Tree.Kind.CONDITIONAL_AND);
    private static final int RULES = 13;

    private static List<String> rules;
    private static Source source;
    private static CallGraph calls;

    private LanguageTest() {
    }

    public static void main(String[] args) throws IOException {
        source = new Source(Path.of(args[0]));
        calls = new CallGraph(source);
        rules = Files.readAllLines(Path.of(args[2]));
        Set<Integer> tested = new TreeSet<>();
        tested.add(rule(1, "the classes inside it, which are private or package-visible and static",
            LanguageTest::classesInside));
        tested.add(rule(1, "No private method bears the name of a public one", LanguageTest::ownNames));
        tested.add(rule(2, "No inner class that isn't static, no local or anonymous class, no lambda, no method"
            + " reference", LanguageTest::noOtherClasses));
        tested.add(rule(3, "arrays of these and of your own classes, of one dimension, and arrays of two dimensions"
            + " of numbers", LanguageTest::types));
        tested.add(rule(4, "only what stands here", LanguageTest::library));
        tested.add(rule(5, "Static fields are final", LanguageTest::staticFields));
        tested.add(rule(5, "written out in their initialiser and never changed", LanguageTest::neverChanged));
        tested.add(rule(6, "No throw, try, catch, synchronized, assert", LanguageTest::kinds));
        tested.add(rule(7, "No call may ever throw or fail to end, for any arguments in any state",
            LanguageRuns::neverThrows));
        tested.add(rule(7, "a divisor before it divides", LanguageTest::divisors));
        tested.add(rule(8, "Recursion", LanguageTest::noRecursion));
        tested.add(rule(9, "Every loop has an end that can be seen from its own lines", LanguageTest::loops));
        tested.add(rule(10, "joining texts by StringBuilder (not by +)", LanguageTest::noJoinedTexts));
        tested.add(rule(11, "calls that are no recursion go at most eight deep", LanguageTest::depth));
        tested.add(rule(11, "A method takes at most seven parameters", LanguageTest::sizes));
        tested.add(rule(12, "none in a loop without a bound", LanguageTest::madeOnce));
        tested.add(rule(12, "What a run makes is counted", LanguageRuns::makesNothing));
        tested.add(rule(13, "the same calls always give the same answers", LanguageRuns::sameAnswers));
        Check.due("rules with a test", tested.size(), RULES);
        Check.that("no rule behind them", rules.stream().noneMatch(line -> line.startsWith(RULES + 1 + ". ")));
        Check.end();
    }

    private static int rule(int number, String words, Runnable test) {
        Check.under("rule " + number + " \"" + words + "\"");
        boolean stands = rules.stream().anyMatch(line -> line.startsWith(number + ". ") && line.contains(words));
        Check.that("stands in the rules", stands);
        test.run();
        Check.under("");
        return number;
    }

    private static boolean isInside(TreePath part) {
        return part.getLeaf() instanceof ClassTree && !(part.getParentPath().getLeaf() == source.unit());
    }

    private static void classesInside() {
        for (TreePath part : source.parts()) {
            if (isInside(part)) {
                ClassTree inside = (ClassTree) part.getLeaf();
                Set<Modifier> flags = inside.getModifiers().getFlags();
                boolean isSeen = flags.contains(Modifier.PUBLIC) || flags.contains(Modifier.PROTECTED);
                Check.that(inside.getSimpleName() + " is not seen from outside", !isSeen);
                Check.that(inside.getSimpleName() + " is static", flags.contains(Modifier.STATIC));
            }
        }
    }

    private static void ownNames() {
        Set<String> names = new TreeSet<>();
        for (MethodTree method : source.all(MethodTree.class)) {
            if (method.getModifiers().getFlags().contains(Modifier.PUBLIC)) {
                names.add(method.getName().toString());
            }
        }
        for (MethodTree method : source.all(MethodTree.class)) {
            boolean isPublic = method.getModifiers().getFlags().contains(Modifier.PUBLIC);
            boolean isMaker = method.getReturnType() == null;
            String name = method.getName().toString();
            Check.that(name + " is no public name", isPublic || isMaker || !names.contains(name));
        }
    }

    private static void noOtherClasses() {
        for (TreePath part : source.parts()) {
            Tree.Kind kind = part.getLeaf().getKind();
            boolean isShort = kind == Tree.Kind.LAMBDA_EXPRESSION || kind == Tree.Kind.MEMBER_REFERENCE;
            Check.that("no " + part.getLeaf(), !isShort);
            if (isInside(part)) {
                Check.that("stands in a class: " + part.getLeaf(), part.getParentPath().getLeaf() instanceof ClassTree);
            }
        }
    }

    private static void types() {
        Set<String> own = new TreeSet<>();
        for (ClassTree type : source.all(ClassTree.class)) {
            own.add(type.getSimpleName().toString());
        }
        for (MethodTree method : source.all(MethodTree.class)) {
            if (method.getReturnType() != null) {
                type(method.getReturnType(), own);
            }
        }
        for (VariableTree variable : source.all(VariableTree.class)) {
            type(variable.getType(), own);
        }
    }

    private static void type(Tree type, Set<String> own) {
        int dimensions = 0;
        Tree one = type;
        while (one instanceof ArrayTypeTree) {
            one = ((ArrayTypeTree) one).getType();
            dimensions++;
        }
        boolean isOwn = own.contains(one.toString());
        Check.that("a type of the rules: " + type, isOwn || TYPES.contains(one.toString()));
        Check.that("dimensions of " + type, dimensions <= (isOwn ? 1 : 2));
    }

    private static void library() {
        for (ImportTree line : source.all(ImportTree.class)) {
            Check.that("no " + line, line.toString().trim().matches("import java\\.util\\.(Arrays|ArrayList|List);"));
        }
        for (String method : calls.library()) {
            Check.that("no " + method, LIBRARY.matcher(method).matches());
        }
    }

    private static boolean isField(TreePath part) {
        return part.getLeaf() instanceof VariableTree && part.getParentPath().getLeaf() instanceof ClassTree;
    }

    private static boolean isStaticField(Element element) {
        return element != null && element.getKind().isField() && element.getModifiers().contains(Modifier.STATIC);
    }

    private static void staticFields() {
        for (TreePath part : source.parts()) {
            if (isField(part) && isStaticField(source.named(part))) {
                VariableTree field = (VariableTree) part.getLeaf();
                String type = field.getType().toString();
                Check.that(field + " is final", field.getModifiers().getFlags().contains(Modifier.FINAL));
                boolean isRow = CONSTANT_ROWS.contains(type);
                Check.that(field + " has such a type", isRow || CONSTANTS.contains(type));
                boolean isWritten = !isRow || ((NewArrayTree) field.getInitializer()).getInitializers() != null;
                Check.that(field + " is written out", isWritten);
            }
            boolean isBlock = part.getLeaf() instanceof BlockTree && part.getParentPath().getLeaf() instanceof ClassTree;
            Check.that("no block of first values", !isBlock);
        }
    }

    /** A row may be read, counted, gone through and copied; nothing else is done with it. */
    private static void neverChanged() {
        for (TreePath part : source.parts()) {
            boolean isRow = part.getLeaf() instanceof IdentifierTree && isStaticField(source.named(part))
                && source.typeOf(part).endsWith("[]");
            if (isRow) {
                Tree around = part.getParentPath().getLeaf();
                Tree farther = part.getParentPath().getParentPath().getLeaf();
                boolean isRead = around instanceof ArrayAccessTree && !isChange(farther);
                boolean isSeen = around instanceof MemberSelectTree || around instanceof EnhancedForLoopTree;
                Check.that("changed: " + farther, isRead || isSeen);
            }
        }
    }

    private static boolean isChange(Tree tree) {
        boolean isStep = EnumSet.of(Tree.Kind.POSTFIX_INCREMENT, Tree.Kind.POSTFIX_DECREMENT,
            Tree.Kind.PREFIX_INCREMENT, Tree.Kind.PREFIX_DECREMENT).contains(tree.getKind());
        return isStep || tree instanceof AssignmentTree || tree instanceof CompoundAssignmentTree;
    }

    private static void kinds() {
        for (TreePath part : source.parts()) {
            Tree.Kind kind = part.getLeaf().getKind();
            Check.that("no " + kind, !FORBIDDEN.contains(kind));
            Check.that("casts and texts would ask for tests of their own: " + kind, !NOT_USED.contains(kind));
        }
        for (MethodTree method : source.all(MethodTree.class)) {
            String name = method.getName().toString();
            Check.that("no " + name, !Set.of("equals", "hashCode", "toString").contains(name));
        }
    }

    private static void divisors() {
        for (TreePath part : source.parts()) {
            ExpressionTree divisor = divisorIn(part.getLeaf());
            if (divisor != null) {
                Check.that("not 0: " + part.getLeaf(), numberAt(new TreePath(part, divisor)) != 0);
            }
        }
    }

    private static ExpressionTree divisorIn(Tree tree) {
        boolean divides = EnumSet.of(Tree.Kind.DIVIDE, Tree.Kind.REMAINDER).contains(tree.getKind());
        if (divides) {
            return ((BinaryTree) tree).getRightOperand();
        }
        Check.that("divided in place: " + tree, !EnumSet.of(Tree.Kind.DIVIDE_ASSIGNMENT,
            Tree.Kind.REMAINDER_ASSIGNMENT).contains(tree.getKind()));
        boolean isCall = tree instanceof MethodInvocationTree
            && ((MethodInvocationTree) tree).getMethodSelect().toString().matches("Math\\.floor(Mod|Div)");
        return isCall ? ((MethodInvocationTree) tree).getArguments().get(1) : null;
    }

    /** The number that is written there or that the constant there has, 0 if there is none. */
    private static int numberAt(TreePath part) {
        Object number = null;
        if (part.getLeaf() instanceof LiteralTree) {
            number = ((LiteralTree) part.getLeaf()).getValue();
        } else if (source.named(part) instanceof VariableElement) {
            number = ((VariableElement) source.named(part)).getConstantValue();
        }
        return number instanceof Integer ? (Integer) number : 0;
    }

    private static void noRecursion() {
        String method = calls.recursion();
        Check.that("calls itself: " + method, method.isEmpty());
    }

    /** Each counts a counter of its own up or down to a bound, and nothing inside it moves the counter. */
    private static void loops() {
        for (ForLoopTree loop : source.all(ForLoopTree.class)) {
            Check.due("counters of " + loop, loop.getInitializer().size(), 1);
            Check.due("steps of " + loop, loop.getUpdate().size(), 1);
            Check.that("a bound of " + loop, loop.getCondition() != null
                && BOUNDS.contains(loop.getCondition().getKind()));
            String counter = ((VariableTree) loop.getInitializer().get(0)).getName().toString();
            String step = loop.getUpdate().get(0).toString().replaceAll(";", "");
            Check.that("a step of " + loop, step.equals(counter + "++") || step.equals(counter + "--"));
            Check.that("the counter is looked at by " + loop, loop.getCondition().toString().contains(counter));
        }
        for (TreePath part : source.parts()) {
            ForLoopTree loop = Source.around(part, ForLoopTree.class);
            if (loop != null && isChange(part.getLeaf()) && !loop.getUpdate().contains(parentOf(part))) {
                String counter = ((VariableTree) loop.getInitializer().get(0)).getName().toString();
                Check.that("moves its counter: " + loop, !changedBy(part.getLeaf()).equals(counter));
            }
        }
    }

    private static Tree parentOf(TreePath part) {
        return part.getParentPath().getLeaf();
    }

    private static String changedBy(Tree change) {
        if (change instanceof UnaryTree) {
            return ((UnaryTree) change).getExpression().toString();
        }
        boolean isPlain = change instanceof AssignmentTree;
        return isPlain ? ((AssignmentTree) change).getVariable().toString()
            : ((CompoundAssignmentTree) change).getVariable().toString();
    }

    private static void noJoinedTexts() {
        for (TreePath part : source.parts()) {
            boolean isSum = part.getLeaf().getKind() == Tree.Kind.PLUS;
            Check.that("joined: " + part.getLeaf(), !isSum || !source.typeOf(part).endsWith("String"));
        }
    }

    private static void depth() {
        List<Element> chain = calls.deepest();
        Check.that("a chain of calls: " + chain, chain.size() <= 8);
    }

    private static void sizes() {
        Check.that("some twelve classes", source.all(ClassTree.class).size() <= 12);
        for (MethodTree method : source.all(MethodTree.class)) {
            Check.that(method.getName() + " takes at most seven", method.getParameters().size() <= 7);
            Check.that(method.getName() + " has some sixty lines", source.linesOf(method) <= 60);
        }
        for (ClassTree type : source.all(ClassTree.class)) {
            long fields = type.getMembers().stream().filter(VariableTree.class::isInstance)
                .filter(field -> !((VariableTree) field).getModifiers().getFlags().contains(Modifier.STATIC)).count();
            Check.that(type.getSimpleName() + " has some twenty fields: " + fields, fields <= 20);
        }
    }

    /** All rows and objects are made with the board itself, so no call can make too many. */
    private static void madeOnce() {
        for (TreePath part : source.parts()) {
            Tree made = part.getLeaf();
            boolean makes = made instanceof NewArrayTree || made instanceof NewClassTree
                || made instanceof MethodInvocationTree && made.toString().endsWith(".clone()");
            MethodTree method = makes ? Source.around(part, MethodTree.class) : null;
            Check.that("made by a call: " + made, method == null || method.getReturnType() == null);
        }
    }
}
