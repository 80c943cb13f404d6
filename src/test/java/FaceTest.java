import java.io.IOException;
import java.lang.reflect.Constructor;
import java.lang.reflect.Field;
import java.lang.reflect.Method;
import java.lang.reflect.Modifier;
import java.nio.file.Files;
import java.nio.file.Path;
import java.util.Arrays;
import java.util.Set;
import java.util.TreeSet;

/** The public face of the document, and the rules of the language that can be seen from outside. */
public final class FaceTest {
    private static final String[] CALLS = {
        "begin 1", "setNumber 2", "setColumn 3", "addMessage 2", "removeMessage 1", "appendCharacter 1",
        "clearText 0", "load 0", "show 2", "darken 0", "jam 2", "mend 2", "pass 1", "count 1", "column 2",
        "flips 2", "letter 2", "message 2", "strip 1", "picture 3", "power 1", "bestShift 1", "due 2",
        "secondsFor 2", "between 2", "bestOrder 2", "undo 0",
    };
    private static final String[] FORBIDDEN = {
        "throw", "try", "catch", "finally", "synchronized", "assert", "native", "volatile", "transient",
        "float", "double", "protected", "package", "var", "goto", "System.out", "System.err", "System.exit",
        "nanoTime", "currentTimeMillis", "Random", "Thread", "Object", "HashMap", "Exact", "->", "::",
        "hashCode", "toString",
    };
    private static final int MOST_FIELDS = 20;
    private static final int MOST_CLASSES = 12;
    private static final int MOST_PARAMETERS = 7;

    public static void main(String[] args) throws IOException {
        constants();
        face();
        inside();
        callsMakeNothing();
        if (args.length > 0) {
            words(Files.readString(Path.of(args[0])));
        }
        Check.end();
    }

    private static void constants() {
        Check.due("INVALID_ARGUMENT", FlipBoard.INVALID_ARGUMENT, -1001);
        Check.due("ILLEGAL_STATE", FlipBoard.ILLEGAL_STATE, -1002);
        Check.due("CAPACITY_EXCEEDED", FlipBoard.CAPACITY_EXCEEDED, -1003);
        Check.due("NONE", FlipBoard.NONE, -1009);
    }

    private static void face() {
        Check.due("public and final", FlipBoard.class.getModifiers(), Modifier.PUBLIC | Modifier.FINAL);
        Set<String> calls = new TreeSet<>(Arrays.asList(CALLS));
        Set<String> found = new TreeSet<>();
        for (Method method : FlipBoard.class.getDeclaredMethods()) {
            if (Modifier.isPrivate(method.getModifiers())) {
                continue;
            }
            found.add(method.getName() + " " + method.getParameterCount());
            Check.due(method + " is public alone", method.getModifiers(), Modifier.PUBLIC);
            Check.that(method + " answers an int", method.getReturnType() == int.class);
            for (Class<?> type : method.getParameterTypes()) {
                Check.that(method + " takes ints", type == int.class);
            }
        }
        Check.that("the calls of the document: " + found, found.equals(calls));
        Constructor<?>[] constructors = FlipBoard.class.getDeclaredConstructors();
        Check.due("one constructor", constructors.length, 1);
        Check.due("a public one", constructors[0].getModifiers(), Modifier.PUBLIC);
        Check.due("without arguments", constructors[0].getParameterCount(), 0);
        Set<String> constants = new TreeSet<>();
        for (Field field : FlipBoard.class.getDeclaredFields()) {
            if (!Modifier.isPrivate(field.getModifiers())) {
                constants.add(field.getName());
            }
        }
        String four = "[CAPACITY_EXCEEDED, ILLEGAL_STATE, INVALID_ARGUMENT, NONE]";
        Check.that("the constants of the document: " + constants, constants.toString().equals(four));
    }

    private static void inside() {
        Set<String> names = new TreeSet<>();
        for (String call : CALLS) {
            names.add(call.substring(0, call.indexOf(' ')));
        }
        Class<?>[] classes = FlipBoard.class.getDeclaredClasses();
        Check.that("classes in all", classes.length + 1 <= MOST_CLASSES);
        fields(FlipBoard.class);
        for (Class<?> inner : classes) {
            fields(inner);
            Check.that(inner + " is static", Modifier.isStatic(inner.getModifiers()));
            Check.that(inner + " is not public", !Modifier.isPublic(inner.getModifiers()));
            for (Method method : inner.getDeclaredMethods()) {
                Check.that(method + " has a name of its own", !names.contains(method.getName()));
                Check.that(method + " parameters", method.getParameterCount() <= MOST_PARAMETERS);
            }
        }
        for (Method method : FlipBoard.class.getDeclaredMethods()) {
            boolean isOwn = Modifier.isPrivate(method.getModifiers());
            Check.that(method + " has a name of its own", !isOwn || !names.contains(method.getName()));
        }
    }

    private static void fields(Class<?> type) {
        int fields = 0;
        for (Field field : type.getDeclaredFields()) {
            if (Modifier.isStatic(field.getModifiers())) {
                Check.that(field + " is final", Modifier.isFinal(field.getModifiers()));
            } else {
                fields++;
            }
        }
        Check.that(type + " has " + fields + " fields", fields <= MOST_FIELDS);
    }

    /** All rows are made by the constructor: the dearest calls make no object. */
    private static void callsMakeNothing() {
        FlipBoard board = new FlipBoard();
        board.begin(40);
        for (char sign : "a=7f7f7f7f7f;>aaaaaaaaaaaa;>a;>aa;>aaa;>a_a;".toCharArray()) {
            board.appendCharacter(sign);
        }
        Check.due("items", board.load(), 6);
        work(board);
        var threads = (com.sun.management.ThreadMXBean) java.lang.management.ManagementFactory.getThreadMXBean();
        long before = threads.getThreadAllocatedBytes(Thread.currentThread().getId());
        work(board);
        long made = threads.getThreadAllocatedBytes(Thread.currentThread().getId()) - before;
        Check.that("bytes made: " + made, made < 10_000);
    }

    private static void work(FlipBoard board) {
        for (int time = 0; time < 20; time++) {
            board.show(time % 5, time % 2);
            board.pass(10);
            board.secondsFor(0, 1);
            board.bestOrder(31, 5);
            board.appendCharacter(' ');
            board.load();
            board.undo();
        }
    }

    private static void words(String source) {
        String code = source.replaceAll("//[^\n]*", "");
        for (String word : FORBIDDEN) {
            boolean isName = Character.isLetter(word.charAt(0));
            String pattern = isName ? "\\b" + word.replace(".", "\\.") + "\\b" : word;
            boolean isThere = java.util.regex.Pattern.compile(pattern).matcher(code).find();
            Check.that("no " + word, !isThere);
        }
        Check.that("one import", code.replaceAll("(?s)import java\\.util\\.Arrays;", "").indexOf("import") < 0);
        Check.that("signs of 1 to 127", source.chars().allMatch(sign -> sign >= 1 && sign <= 127));
    }
}
