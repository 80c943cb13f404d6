import com.sun.source.tree.ClassTree;
import com.sun.source.tree.MethodTree;
import com.sun.source.tree.ModifiersTree;
import com.sun.source.tree.Tree;
import com.sun.source.tree.VariableTree;
import java.lang.reflect.Constructor;
import java.lang.reflect.Field;
import java.lang.reflect.Method;
import java.lang.reflect.Modifier;
import java.util.ArrayList;
import java.util.List;
import java.util.stream.Collectors;

/** "The public face", and the headings that "Errors" tells of it. */
final class FaceTerms {
    private static final String FACE = "The public face";
    private static final String END = "}";

    private FaceTerms() {
    }

    static void test(Source source) {
        List<String> written = written(source);
        List<String> told = Document.sentences(FACE);
        for (String line : told) {
            if (!line.equals(END)) {
                Document.test(FACE, line, () -> Check.that("stands in the source", written.contains(line)));
            }
        }
        Document.test(FACE, END, () -> nothingElse(written, told));
        Document.test(FACE, "public final class FlipBoard {", FaceTerms::made);
        Document.test(FACE, "public int undo();", FaceTerms::calls);
        Document.test(FACE, "public static final int NONE = -1009;", FaceTerms::constants);
        headings(source);
    }

    /** The class's members that are not private, as the document writes them, in the source's order. */
    private static List<String> written(Source source) {
        List<String> lines = new ArrayList<>();
        ClassTree face = source.all(ClassTree.class).get(0);
        boolean isBare = face.getExtendsClause() == null && face.getImplementsClause().isEmpty()
            && face.getTypeParameters().isEmpty();
        lines.add(flags(face.getModifiers()) + "class " + face.getSimpleName() + (isBare ? " {" : " and more {"));
        for (Tree member : face.getMembers()) {
            if (member instanceof MethodTree && isSeen(((MethodTree) member).getModifiers())) {
                lines.add(method((MethodTree) member, face.getSimpleName().toString()));
            } else if (member instanceof VariableTree && isSeen(((VariableTree) member).getModifiers())) {
                lines.add(field((VariableTree) member));
            } else if (member instanceof ClassTree && isOpen(((ClassTree) member).getModifiers())) {
                lines.add("class " + ((ClassTree) member).getSimpleName());
            }
        }
        lines.add(END);
        return lines;
    }

    private static boolean isSeen(ModifiersTree flags) {
        return !flags.getFlags().contains(javax.lang.model.element.Modifier.PRIVATE);
    }

    private static boolean isOpen(ModifiersTree flags) {
        return flags.getFlags().contains(javax.lang.model.element.Modifier.PUBLIC)
            || flags.getFlags().contains(javax.lang.model.element.Modifier.PROTECTED);
    }

    private static String flags(ModifiersTree flags) {
        return flags.getFlags().stream().map(flag -> flag + " ").collect(Collectors.joining());
    }

    private static String method(MethodTree method, String maker) {
        boolean isMaker = method.getReturnType() == null;
        String name = isMaker ? maker : method.getReturnType() + " " + method.getName();
        String taken = method.getParameters().stream().map(VariableTree::toString).collect(Collectors.joining(", "));
        String thrown = method.getThrows().isEmpty() ? "" : " throws";
        return flags(method.getModifiers()) + name + "(" + taken + ")" + thrown + ";";
    }

    private static String field(VariableTree field) {
        return flags(field.getModifiers()) + field.getType() + " " + field.getName() + " = " + field.getInitializer()
            + ";";
    }

    private static void nothingElse(List<String> written, List<String> told) {
        List<String> more = new ArrayList<>(written);
        more.removeAll(told);
        Check.that("more than the document has: " + more, more.isEmpty());
        Check.due("members", written.size(), told.size());
        Check.that("in the document's order", written.equals(told));
    }

    private static void made() {
        Check.due("public and final", FlipBoard.class.getModifiers(), Modifier.PUBLIC | Modifier.FINAL);
        Check.that("of no other class", FlipBoard.class.getSuperclass() == Object.class);
        Check.due("interfaces", FlipBoard.class.getInterfaces().length, 0);
        Check.due("classes seen from outside", FlipBoard.class.getClasses().length, 0);
        Constructor<?>[] makers = FlipBoard.class.getDeclaredConstructors();
        Check.due("constructors", makers.length, 1);
        Check.due("a public one", makers[0].getModifiers(), Modifier.PUBLIC);
        Check.due("its arguments", makers[0].getParameterCount(), 0);
    }

    private static void calls() {
        int calls = 0;
        for (Method method : FlipBoard.class.getDeclaredMethods()) {
            if (!Modifier.isPrivate(method.getModifiers())) {
                calls++;
                Check.due(method + " is public alone", method.getModifiers(), Modifier.PUBLIC);
                Check.that(method + " answers an int", method.getReturnType() == int.class);
                Check.due(method + " throws", method.getExceptionTypes().length, 0);
            }
        }
        Check.due("calls, of promise 2 to promise 28", calls, Calls.UNDO - Calls.BEGIN + 1);
    }

    private static void constants() {
        int constants = 0;
        for (Field field : FlipBoard.class.getDeclaredFields()) {
            if (!Modifier.isPrivate(field.getModifiers())) {
                constants++;
                Check.due(field + ", flags", field.getModifiers(), Modifier.PUBLIC | Modifier.STATIC | Modifier.FINAL);
                Check.that(field + " is an int", field.getType() == int.class);
            }
        }
        Check.due("constants", constants, 4);
        Check.due("INVALID_ARGUMENT", FlipBoard.INVALID_ARGUMENT, -1001);
        Check.due("ILLEGAL_STATE", FlipBoard.ILLEGAL_STATE, -1002);
        Check.due("CAPACITY_EXCEEDED", FlipBoard.CAPACITY_EXCEEDED, -1003);
        Check.due("NONE", FlipBoard.NONE, -1009);
    }

    private static void headings(Source source) {
        String ahead = "Ahead of the calls ";
        String says = " the interface says: ";
        int headings = 0;
        for (String sentence : Document.sentences("Errors")) {
            if (sentence.startsWith(ahead)) {
                headings++;
                String[] halves = sentence.substring(ahead.length(), sentence.length() - 1).split(says);
                Document.test("Errors", sentence, () -> heading(source, halves[1], halves[0].replaceAll("[`,]", "")));
            }
        }
        Check.due("headings", headings, 5);
    }

    private static void heading(Source source, String heading, String calls) {
        String[] parts = source.text().split("// " + java.util.regex.Pattern.quote(heading) + "\n");
        Check.due("parts beside the heading", parts.length, 2);
        String under = parts[parts.length - 1].split("// ----")[0];
        List<String> found = java.util.regex.Pattern.compile("public int (\\w+)\\(").matcher(under).results()
            .map(call -> call.group(1)).collect(Collectors.toList());
        Check.that("calls under it: " + found, String.join(" ", found).equals(calls));
    }
}
