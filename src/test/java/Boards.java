/** Boards that several tests begin with. */
final class Boards {
    static final int INVALID = -1001;
    static final int ILLEGAL = -1002;
    static final int FULL = -1003;
    static final int NONE = -1009;

    static final int WIDTH = 0;
    static final int MESSAGES = 4;
    static final int DUE = 5;
    static final int STUCK = 6;
    static final int KNOWN = 7;
    static final int OTHER = 8;
    static final int FLIPS = 9;
    static final int TRIES = 10;
    static final int POWER = 11;
    static final int SECONDS = 12;
    static final int TEXT = 13;
    static final int SAVED = 14;

    private Boards() {
    }

    static void type(Board board, String text) {
        for (int i = 0; i < text.length(); i++) {
            board.appendCharacter(text.charAt(i));
        }
    }

    /** Puts the text in place of the one that stands there and reads it. */
    static int load(Board board, String text) {
        board.clearText();
        type(board, text);
        return board.load();
    }

    static Board withText(int columns, String text) {
        Board board = new Board();
        board.begin(columns);
        Check.that("load " + text, load(board, text) >= 0);
        return board;
    }
}
