import java.util.function.ToIntFunction;

/** What the tests of the edges have in common. */
final class Edges {
    static final int INVALID = Boards.INVALID;
    static final int ILLEGAL = Boards.ILLEGAL;
    static final int FULL = Boards.FULL;
    static final int NONE = Boards.NONE;

    /** A call with one of its arguments left open. */
    interface Call {
        int with(Board board, int value);
    }

    private Edges() {
    }

    /**
     * A board of 8 columns on which much has happened: letters of 2, 1 and no columns, three messages,
     * a dot that is stuck and known, one that is stuck and not known, due dots, six saved states and a
     * text that is begun. Column 3 shows 0x0e.
     */
    static Board busy() {
        Board board = Boards.withText(8, "a=7f09; b=41; >a; >ab; >_b;");
        board.setNumber(0, 5);
        board.jam(3, 0);
        board.jam(7, 6);
        board.show(0, 0);
        board.pass(1);
        Boards.type(board, "c=0");
        Check.due("busy board, due dots", board.count(Boards.DUE), 5);
        Check.due("busy board, stuck dots", board.count(Boards.STUCK), 2);
        Check.due("busy board, known dots", board.count(Boards.KNOWN), 1);
        Check.due("busy board, saved states", board.count(Boards.SAVED), 6);
        return board;
    }

    static void refused(Board board, int code, String what, ToIntFunction<Board> call) {
        String before = board.whole();
        Check.due(what, call.applyAsInt(board), code);
        Check.same(what + " changes nothing", board.whole(), before);
    }

    /** One below, one above and far off are refused and change nothing; the two ends are taken. */
    static void range(Board board, int least, int atLeast, int most, int atMost, Call call) {
        refusedBeside(board, least, most, call);
        Check.due("the least, " + least, call.with(board.again(), least), atLeast);
        Check.due("the greatest, " + most, call.with(board.again(), most), atMost);
    }

    static void refusedBeside(Board board, int least, int most, Call call) {
        String before = board.whole();
        Board other = board.again();
        int[] values = {least - 1, most + 1, Integer.MIN_VALUE, Integer.MAX_VALUE};
        for (int value : values) {
            Check.due("with " + value, call.with(other, value), INVALID);
        }
        Check.same("refused calls change nothing", other.whole(), before);
    }

    /** What the board shows in its columns from 0 on. */
    static void shows(String what, Board board, int... bits) {
        sidesAre(what + ", shown", board, 0, bits);
    }

    static void aims(String what, Board board, int... bits) {
        sidesAre(what + ", aim", board, 1, bits);
    }

    static void sidesAre(String what, Board board, int side, int... bits) {
        Board other = board.again();
        for (int column = 0; column < bits.length; column++) {
            Check.due(what + ", column " + column, other.column(column, side), bits[column]);
        }
    }

    /**
     * The flips from the first (0) of the dots of a message: there with each even one, back with each
     * odd one, each within a second.
     */
    static void flipTimes(Board board, int message, int from, int to) {
        for (int time = from; time < to; time++) {
            if (time % 2 == 0) {
                board.show(message, 0);
            } else {
                board.darken();
            }
            board.pass(1);
        }
    }
}
