/** Boards that several tests begin with. */
final class Boards {
    static final int INVALID = -1001;
    static final int ILLEGAL = -1002;
    static final int FULL = -1003;
    static final int NONE = -1009;

    static final int WIDTH = 0;
    static final int MESSAGES = 4;
    static final int DUE = 5;
    static final int STUCK = 6;
    static final int KNOWN = 7;
    static final int OTHER = 8;
    static final int FLIPS = 9;
    static final int TRIES = 10;
    static final int POWER = 11;
    static final int SECONDS = 12;
    static final int TEXT = 13;
    static final int SAVED = 14;

    private Boards() {
    }

    static void type(FlipBoard board, String text) {
        for (int i = 0; i < text.length(); i++) {
            board.appendCharacter(text.charAt(i));
        }
    }

    /** Puts the text in place of the one that stands there and reads it. */
    static int load(FlipBoard board, String text) {
        board.clearText();
        type(board, text);
        return board.load();
    }

    static FlipBoard withText(int columns, String text) {
        FlipBoard board = new FlipBoard();
        board.begin(columns);
        Check.that("load " + text, load(board, text) >= 0);
        return board;
    }

    /** Everything that the looking calls tell, but for the text and the saved states. */
    static String look(FlipBoard board) {
        StringBuilder seen = new StringBuilder();
        for (int what = 0; what <= 12; what++) {
            seen.append(board.count(what)).append(' ');
        }
        for (int column = 0; column < board.count(WIDTH); column++) {
            for (int what = 0; what < 4; what++) {
                seen.append(board.column(column, what)).append(' ');
            }
            for (int row = 0; row < 7; row++) {
                seen.append(board.flips(column, row)).append(' ');
            }
        }
        for (int letter = 0; letter < 26; letter++) {
            for (int index = 0; index < 6; index++) {
                seen.append(board.letter(letter, index)).append(' ');
            }
        }
        for (int message = 0; message < 9; message++) {
            for (int index = 0; index < 13; index++) {
                seen.append(board.message(message, index)).append(' ');
            }
        }
        for (int ago = 1; ago <= 20; ago++) {
            seen.append(board.power(ago)).append(' ');
        }
        return seen.toString();
    }

    static String lookWithText(FlipBoard board) {
        return look(board) + board.count(TEXT) + " " + board.count(SAVED);
    }
}
