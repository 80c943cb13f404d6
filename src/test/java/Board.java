import java.util.ArrayList;
import java.util.List;

/**
 * A FlipBoard whose calls are kept. The document promises 512 calls of an object and no more, so a
 * look at everything is had from further objects on which the same calls are made first.
 */
final class Board implements Calls {
    static final int MOST_CALLS = 512;

    private final FlipBoard board = new FlipBoard();
    private final List<int[]> kept = new ArrayList<>();
    private final boolean keeps;

    Board() {
        this(true);
    }

    private Board(boolean keeps) {
        this.keeps = keeps;
    }

    /** One that takes any number of calls and keeps none. */
    static Board withoutEnd() {
        return new Board(false);
    }

    private void keep(int promise, int a, int b, int c) {
        if (!keeps) {
            return;
        }
        if (kept.size() == MOST_CALLS) {
            throw new IllegalStateException("a 513th call in a test");
        }
        kept.add(new int[] {promise, a, b, c});
    }

    int calls() {
        return kept.size();
    }

    /** A new object behind the same calls. */
    Board again() {
        Board other = new Board();
        for (int[] call : kept) {
            other.call(call[0], call[1], call[2], call[3]);
        }
        return other;
    }

    /** Everything that can be seen, but for the text and the saved states. */
    String look() {
        StringBuilder told = new StringBuilder();
        Board other = again();
        for (int[] question : Look.QUESTIONS) {
            if (other.kept.size() == MOST_CALLS) {
                other = again();
            }
            told.append(other.call(question[0], question[1], question[2], question[3])).append(' ');
        }
        return told.toString();
    }

    /** Everything: what can be seen, what the text does, and each of the saved states. */
    String whole() {
        StringBuilder told = new StringBuilder(look());
        Board reading = again();
        told.append(reading.count(Boards.TEXT)).append(' ').append(reading.count(Boards.SAVED)).append(' ');
        told.append(reading.load()).append(' ').append(reading.look());
        Board back = again();
        int left = back.undo();
        while (left >= 0) {
            told.append(left).append(' ').append(back.look());
            left = back.undo();
        }
        return told.toString();
    }

    @Override
    public int begin(int columns) {
        keep(BEGIN, columns, 0, 0);
        return board.begin(columns);
    }

    @Override
    public int setNumber(int what, int value) {
        keep(SET_NUMBER, what, value, 0);
        return board.setNumber(what, value);
    }

    @Override
    public int setColumn(int letter, int index, int bits) {
        keep(SET_COLUMN, letter, index, bits);
        return board.setColumn(letter, index, bits);
    }

    @Override
    public int addMessage(int first, int second) {
        keep(ADD_MESSAGE, first, second, 0);
        return board.addMessage(first, second);
    }

    @Override
    public int removeMessage(int message) {
        keep(REMOVE_MESSAGE, message, 0, 0);
        return board.removeMessage(message);
    }

    @Override
    public int appendCharacter(int character) {
        keep(APPEND_CHARACTER, character, 0, 0);
        return board.appendCharacter(character);
    }

    @Override
    public int clearText() {
        keep(CLEAR_TEXT, 0, 0, 0);
        return board.clearText();
    }

    @Override
    public int load() {
        keep(LOAD, 0, 0, 0);
        return board.load();
    }

    @Override
    public int show(int message, int how) {
        keep(SHOW, message, how, 0);
        return board.show(message, how);
    }

    @Override
    public int darken() {
        keep(DARKEN, 0, 0, 0);
        return board.darken();
    }

    @Override
    public int jam(int column, int row) {
        keep(JAM, column, row, 0);
        return board.jam(column, row);
    }

    @Override
    public int mend(int column, int row) {
        keep(MEND, column, row, 0);
        return board.mend(column, row);
    }

    @Override
    public int pass(int seconds) {
        keep(PASS, seconds, 0, 0);
        return board.pass(seconds);
    }

    @Override
    public int count(int what) {
        keep(COUNT, what, 0, 0);
        return board.count(what);
    }

    @Override
    public int column(int column, int what) {
        keep(COLUMN, column, what, 0);
        return board.column(column, what);
    }

    @Override
    public int flips(int column, int row) {
        keep(FLIPS, column, row, 0);
        return board.flips(column, row);
    }

    @Override
    public int letter(int letter, int index) {
        keep(LETTER, letter, index, 0);
        return board.letter(letter, index);
    }

    @Override
    public int message(int message, int index) {
        keep(MESSAGE, message, index, 0);
        return board.message(message, index);
    }

    @Override
    public int strip(int message) {
        keep(STRIP, message, 0, 0);
        return board.strip(message);
    }

    @Override
    public int picture(int message, int shift, int column) {
        keep(PICTURE, message, shift, column);
        return board.picture(message, shift, column);
    }

    @Override
    public int power(int ago) {
        keep(POWER, ago, 0, 0);
        return board.power(ago);
    }

    @Override
    public int bestShift(int message) {
        keep(BEST_SHIFT, message, 0, 0);
        return board.bestShift(message);
    }

    @Override
    public int due(int message, int how) {
        keep(DUE, message, how, 0);
        return board.due(message, how);
    }

    @Override
    public int secondsFor(int message, int how) {
        keep(SECONDS_FOR, message, how, 0);
        return board.secondsFor(message, how);
    }

    @Override
    public int between(int a, int b) {
        keep(BETWEEN, a, b, 0);
        return board.between(a, b);
    }

    @Override
    public int bestOrder(int messages, int what) {
        keep(BEST_ORDER, messages, what, 0);
        return board.bestOrder(messages, what);
    }

    @Override
    public int undo() {
        keep(UNDO, 0, 0, 0);
        return board.undo();
    }
}
