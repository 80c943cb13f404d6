import java.io.IOException;
import java.lang.reflect.Method;
import java.lang.reflect.Modifier;
import java.nio.file.Files;
import java.nio.file.Path;
import java.util.ArrayList;
import java.util.List;
import java.util.Set;
import java.util.TreeSet;
import java.util.regex.Matcher;
import java.util.regex.Pattern;

/** What README.md shows: its calls answer as it says, and the command and the classes that it names are there. */
public final class ReadmeTest {
    private static final String COMMAND = ".ci/run";
    private static final Pattern BLOCK = Pattern.compile("(?s)```(\\w+)\n(.*?)```");
    private static final Pattern MADE = Pattern.compile("FlipBoard board = new FlipBoard\\(\\);.*");
    private static final Pattern CALL = Pattern.compile("board\\.(\\w+)\\((.*)\\);\\s+// (-?\\d+|[A-Z_]+)(:.*)?");
    private static final Pattern TEST_CLASS = Pattern.compile("`(\\w+(Test|Terms|Promises)|Model|Board)`");

    private final Set<String> shown = new TreeSet<>();
    private FlipBoard board;
    private int calls = 0;

    private ReadmeTest() {
    }

    public static void main(String[] args) throws IOException, ReflectiveOperationException {
        String readme = Files.readString(Path.of(args[3]));
        ReadmeTest test = new ReadmeTest();
        for (String line : linesOf(readme, "java")) {
            test.make(line);
        }
        test.everyCallIsShown();
        text(readme);
        command(readme);
        classes(readme);
        Check.end();
    }

    private static List<String> linesOf(String readme, String language) {
        List<String> lines = new ArrayList<>();
        Matcher block = BLOCK.matcher(readme);
        while (block.find()) {
            if (block.group(1).equals(language)) {
                lines.addAll(List.of(block.group(2).split("\n")));
            }
        }
        return lines;
    }

    private void make(String line) throws ReflectiveOperationException {
        Matcher call = CALL.matcher(line);
        if (MADE.matcher(line).matches()) {
            board = new FlipBoard();
            calls = 0;
        } else if (call.matches()) {
            calls++;
            Check.that("calls of one object", calls <= Board.MOST_CALLS);
            Check.due(line, answer(call.group(1), call.group(2)), number(call.group(3)));
            shown.add(call.group(1));
        } else {
            Check.that("a call with its answer: " + line, line.isEmpty());
        }
    }

    private int answer(String name, String arguments) throws ReflectiveOperationException {
        String[] words = arguments.isEmpty() ? new String[0] : arguments.split(", ");
        Class<?>[] types = new Class<?>[words.length];
        Object[] values = new Object[words.length];
        for (int i = 0; i < words.length; i++) {
            types[i] = int.class;
            boolean isSign = words[i].matches("'.'");
            values[i] = isSign ? words[i].charAt(1) : Integer.parseInt(words[i]);
        }
        return (int) FlipBoard.class.getMethod(name, types).invoke(board, values);
    }

    private static int number(String answer) throws ReflectiveOperationException {
        boolean isConstant = Character.isLetter(answer.charAt(0));
        return isConstant ? FlipBoard.class.getField(answer).getInt(null) : Integer.parseInt(answer);
    }

    private void everyCallIsShown() {
        for (Method method : FlipBoard.class.getDeclaredMethods()) {
            if (Modifier.isPublic(method.getModifiers())) {
                Check.that(method.getName() + " is shown", shown.contains(method.getName()));
            }
        }
    }

    /** The text that is shown tells what the calls beside it do. */
    private static void text(String readme) {
        Matcher text = Pattern.compile("`(\\w=\\w+;\\S*)`").matcher(readme);
        Check.that("a text", text.find());
        Board board = new Board();
        Boards.type(board, text.group(1));
        Check.due("items", board.load(), 3);
        int[] told = {board.letter(0, 0), board.letter(0, 1), board.letter(0, 2), board.message(0, 0),
            board.message(0, 1), board.message(0, 2), board.message(1, 0), board.message(1, 1), board.message(1, 2)};
        int[] due = {127, 8, Boards.NONE, 0, 26, Boards.NONE, 0, 0, Boards.NONE};
        for (int i = 0; i < due.length; i++) {
            Check.due("what the text tells, " + i, told[i], due[i]);
        }
    }

    private static void command(String readme) {
        Check.that("names the command of the tests", linesOf(readme, "sh").equals(List.of(COMMAND)));
        Check.that("that can be run", Files.isExecutable(Path.of(COMMAND)));
    }

    private static void classes(String readme) {
        Set<String> named = new TreeSet<>();
        Matcher name = TEST_CLASS.matcher(readme);
        while (name.find()) {
            named.add(name.group(1) + ".java");
            Path file = Path.of("src/test/java", name.group(1) + ".java");
            Check.that(file + " is there", Files.isRegularFile(file));
        }
        Check.that("names test classes", named.contains("DocumentTest.java") && named.contains("ReadmeTest.java"));
    }
}
