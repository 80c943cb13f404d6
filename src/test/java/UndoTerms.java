import java.util.ArrayDeque;
import java.util.Deque;
import java.util.function.ToIntFunction;

/** The edges that "Undo" names. */
final class UndoTerms {
    private static final String UNDO = "Undo";

    private UndoTerms() {
    }

    static void test() {
        Document.test(UNDO, "Every successful call of begin(), setNumber(), setColumn(), load(), addMessage(),"
            + " removeMessage(), show(), darken(), jam(), mend() and pass() saves the state that preceded it",
            UndoTerms::everySuccessfulCall);
        Document.test(UNDO, "Every successful call of", UndoTerms::noOtherCall);
        Document.test(UNDO, "which consists of everything but the text", UndoTerms::everythingButTheText);
        Document.test(UNDO, "which consists of everything but the text", UndoTerms::widthsToo);
        Document.test(UNDO, "At most 6 states are saved", UndoTerms::sixStates);
        Document.test(UNDO, "when a seventh is saved, the oldest one is discarded", UndoTerms::theSeventh);
        Document.test(UNDO, "undo() restores the most recently saved state and discards it", UndoTerms::mostRecent);
    }

    /** A board with one saved state. */
    private static Board board() {
        Board board = new Board();
        Boards.type(board, "a=7f; >a; >aa; b=01;");
        board.load();
        return board;
    }

    private static void saves(String what, ToIntFunction<Board> call) {
        saves(board(), what, call);
        saves(Edges.busy(), what, call);
    }

    private static void saves(Board board, String what, ToIntFunction<Board> call) {
        String before = board.look();
        int saved = board.count(Boards.SAVED);
        Check.that(what + " is successful", call.applyAsInt(board) >= 0);
        Check.due(what + " saves a state", board.count(Boards.SAVED), Math.min(saved + 1, 6));
        Check.due("undo of " + what, board.undo(), Math.min(saved, 5));
        Check.same("what preceded " + what, board.look(), before);
        Check.due("the state ahead of it is still saved", board.undo(), Math.min(saved, 5) - 1);
    }

    private static void everySuccessfulCall() {
        saves("begin", b -> b.begin(9));
        saves("begin with the same W", b -> b.begin(20));
        saves("setNumber", b -> b.setNumber(2, 5));
        saves("setNumber with the same value", b -> b.setNumber(1, 0));
        saves("setColumn", b -> b.setColumn(0, 1, 8));
        saves("setColumn with the same bits", b -> b.setColumn(0, 0, 127));
        saves("load", b -> Boards.load(b, "a=01;"));
        saves("load of an empty text", b -> Boards.load(b, ""));
        saves("addMessage", b -> b.addMessage(0, 0));
        saves("removeMessage", b -> b.removeMessage(0));
        saves("show", b -> b.show(1, 1));
        saves("darken, where the aim is dark", Board::darken);
        saves("jam", b -> b.jam(5, 6));
        saves("mend of a dot that is not stuck", b -> b.mend(0, 0));
        saves("pass without due dots", b -> b.pass(1));
        Board board = board();
        board.show(0, 0);
        String before = board.look();
        board.show(0, 0);
        Check.due("the same show saves", board.count(Boards.SAVED), 3);
        board.undo();
        Check.same("what preceded the same show", board.look(), before);
    }

    private static void noOtherCall() {
        Board board = board();
        board.appendCharacter('a');
        board.clearText();
        for (int promise = Calls.COUNT; promise <= Calls.BEST_ORDER; promise++) {
            Check.that("successful, " + promise, board.call(promise, 1, 0, 0) != Edges.INVALID);
        }
        board.begin(5);
        board.setNumber(0, 1);
        board.setColumn(26, 0, 0);
        Boards.load(board, ";");
        board.addMessage(27, 0);
        board.removeMessage(2);
        board.show(2, 0);
        board.jam(20, 0);
        board.mend(20, 0);
        board.pass(0);
        Check.due("no state is saved", board.count(Boards.SAVED), 1);
        Check.due("undo", board.undo(), 0);
        Check.due("nothing is left of the text that was read", board.count(Boards.MESSAGES), 0);
    }

    private static void everythingButTheText() {
        Board board = Edges.busy();
        String before = board.look();
        board.setNumber(2, 1);
        board.pass(9);
        board.mend(3, 0);
        board.clearText();
        Boards.type(board, "d=77; >d;");
        Check.due("two items", board.load(), 2);
        board.removeMessage(0);
        board.begin(40);
        Boards.type(board, "e=01;>e");
        Check.that("much is changed", !board.look().equals(before));
        for (int left = 5; left >= 0; left--) {
            Check.due("undo", board.undo(), left);
        }
        Check.same("all is as it was", board.look(), before);
        Check.due("the text stays", board.count(Boards.TEXT), 7);
        Check.due("with what was missing in it", board.load(), -2007);
        board.appendCharacter(';');
        Check.due("the text that stands now is read", board.load(), 2);
        board.undo();
        Check.due("the text that was read does not come back", board.count(Boards.TEXT), 0);
        Check.same("all else does", board.look(), before);
    }

    /** A board of 40 columns and one of 6 have nothing of each other's dots. */
    private static void widthsToo() {
        Board board = Boards.withText(6, "e=7f7f7f7f7f; >eeeeeeeeeeee;");
        String narrow = board.look();
        board.begin(40);
        board.setNumber(2, 1);
        board.show(0, 0);
        board.pass(9);
        String wide = board.look();
        board.begin(6);
        board.undo();
        Check.same("all of the 40 columns", board.look(), wide);
        for (int undo = 0; undo < 4; undo++) {
            board.undo();
        }
        Check.same("nothing but the 6 columns", board.look(), narrow);
        Check.due("no stuck dots beside them", board.count(Boards.STUCK), 0);
    }

    private static void sixStates() {
        Board board = new Board();
        Check.due("none at first", board.count(Boards.SAVED), 0);
        Check.due("nothing to restore", board.undo(), Edges.ILLEGAL);
        for (int call = 1; call <= 20; call++) {
            board.setNumber(0, 10 + call);
            Check.due("saved by call " + call, board.count(Boards.SAVED), Math.min(call, 6));
        }
        for (int left = 5; left >= 0; left--) {
            Check.due("left", board.undo(), left);
            Check.due("counted", board.count(Boards.SAVED), left);
        }
        Check.due("none left", board.undo(), Edges.ILLEGAL);
    }

    private static void theSeventh() {
        Board six = new Board();
        Board seven = new Board();
        for (int call = 1; call <= 7; call++) {
            if (call <= 6) {
                six.setNumber(0, 10 + call);
            }
            seven.setNumber(0, 10 + call);
        }
        for (int undo = 1; undo <= 6; undo++) {
            six.undo();
            seven.undo();
        }
        Check.due("six calls, all undone", six.count(1), 10);
        Check.due("seven calls, six undone", seven.count(1), 11);
        Edges.refused(six, Edges.ILLEGAL, "a seventh undo of six", Board::undo);
        Edges.refused(seven, Edges.ILLEGAL, "a seventh undo of seven", Board::undo);
    }

    /** Calls and undos in turn, so often that the places of the states are used again and again. */
    private static void mostRecent() {
        Board board = new Board();
        Deque<Integer> powers = new ArrayDeque<>();
        int power = 10;
        for (int turn = 0; turn < 24; turn++) {
            for (int call = 0; call < 1 + turn * 5 % 8; call++) {
                powers.addLast(power);
                if (powers.size() > 6) {
                    powers.removeFirst();
                }
                power = power % 40 + 2;
                board.setNumber(0, power);
            }
            for (int undo = 0; undo < 1 + turn % 4 && !powers.isEmpty(); undo++) {
                power = powers.removeLast();
                Check.due("turn " + turn + ", still saved", board.undo(), powers.size());
                Check.due("turn " + turn + ", restored", board.count(1), power);
            }
        }
    }
}
