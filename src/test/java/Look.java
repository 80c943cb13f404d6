import java.util.ArrayList;
import java.util.List;

/** The calls that tell everything that can be seen, but for the text and the saved states. */
final class Look {
    static final List<int[]> QUESTIONS = questions();

    private Look() {
    }

    private static List<int[]> questions() {
        List<int[]> questions = new ArrayList<>();
        for (int what = 0; what <= 12; what++) {
            questions.add(new int[] {Calls.COUNT, what, 0, 0});
        }
        for (int column = 0; column < 40; column++) {
            for (int what = 0; what < 4; what++) {
                questions.add(new int[] {Calls.COLUMN, column, what, 0});
            }
            for (int row = 0; row < 7; row++) {
                questions.add(new int[] {Calls.FLIPS, column, row, 0});
            }
        }
        for (int letter = 0; letter < 26; letter++) {
            for (int index = 0; index < 6; index++) {
                questions.add(new int[] {Calls.LETTER, letter, index, 0});
            }
        }
        for (int message = 0; message < 9; message++) {
            for (int index = 0; index < 13; index++) {
                questions.add(new int[] {Calls.MESSAGE, message, index, 0});
            }
            questions.add(new int[] {Calls.STRIP, message, 0, 0});
        }
        for (int ago = 1; ago <= 20; ago++) {
            questions.add(new int[] {Calls.POWER, ago, 0, 0});
        }
        return questions;
    }

    static String at(Calls calls) {
        StringBuilder told = new StringBuilder();
        for (int[] question : QUESTIONS) {
            told.append(calls.call(question[0], question[1], question[2], question[3])).append(' ');
        }
        return told.toString();
    }
}
