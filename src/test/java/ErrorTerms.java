/** The edges that "Errors" names. */
final class ErrorTerms {
    private static final String ERRORS = "Errors";

    private ErrorTerms() {
    }

    static void test() {
        Document.test(ERRORS, "A method that returns an error code changes nothing", ErrorTerms::changesNothing);
        Document.test(ERRORS, "A method that returns an error code changes nothing",
            ErrorTerms::nothingBetweenOthers);
        Document.test(ERRORS, "If several error codes apply, the one that is named first in the description of the"
            + " method is returned", ErrorTerms::namedFirst);
        Document.test(ERRORS, "NONE is no error, and it is returned only if no error code applies",
            ErrorTerms::noneIsLast);
        Document.test(ERRORS, "`INVALID_ARGUMENT = -1001`: An argument is out of range, or names something that does"
            + " not exist", ErrorTerms::invalidArgument);
        Document.test(ERRORS, "`ILLEGAL_STATE = -1002`: The call is not possible in the present state",
            ErrorTerms::illegalState);
        Document.test(ERRORS, "`CAPACITY_EXCEEDED = -1003`: There is no room", ErrorTerms::capacityExceeded);
        Document.test(ERRORS, "`NONE = -1009`: There is no such value", ErrorTerms::none);
        Document.test(ERRORS, "`strip`, `picture`, `power` the interface says: ---- looking", ErrorTerms::looking);
        Document.test(ERRORS, "`undo` the interface says: ---- what would be (nothing changes)",
            ErrorTerms::whatWouldBe);
    }

    /** Eight messages, a full text with an error, six saved states. */
    private static Board full() {
        Board board = Boards.withText(6, "a=7f; >a;>b;>c;>d;>e;>f;>g;>_____;");
        board.jam(2, 0);
        board.show(0, 0);
        board.pass(1);
        board.setColumn(1, 0, 3);
        Boards.type(board, "b=01; >" + " ".repeat(113));
        Check.due("eight messages", board.count(Boards.MESSAGES), 8);
        Check.due("a full text", board.count(Boards.TEXT), 120);
        Check.due("six saved states", board.count(Boards.SAVED), 6);
        return board;
    }

    private static void changesNothing() {
        Board board = full();
        Edges.refused(board, Edges.INVALID, "begin(41)", b -> b.begin(41));
        Edges.refused(board, Edges.INVALID, "setNumber(0, 51)", b -> b.setNumber(0, 51));
        Edges.refused(board, Edges.INVALID, "setColumn(0, 2, 1)", b -> b.setColumn(0, 2, 1));
        Edges.refused(board, Edges.INVALID, "setColumn(0, 1, 128)", b -> b.setColumn(0, 1, 128));
        Edges.refused(board, Edges.FULL, "addMessage(0, 0)", b -> b.addMessage(0, 0));
        Edges.refused(board, Edges.INVALID, "addMessage(0, 27)", b -> b.addMessage(0, 27));
        Edges.refused(board, Edges.INVALID, "removeMessage(8)", b -> b.removeMessage(8));
        Edges.refused(board, Edges.FULL, "appendCharacter(';')", b -> b.appendCharacter(';'));
        Edges.refused(board, -2006, "load()", Board::load);
        Edges.refused(board, Edges.INVALID, "show(8, 0)", b -> b.show(8, 0));
        Edges.refused(board, Edges.INVALID, "show(1, 2)", b -> b.show(1, 2));
        Edges.refused(board, Edges.INVALID, "jam(6, 0)", b -> b.jam(6, 0));
        Edges.refused(board, Edges.ILLEGAL, "jam(2, 0)", b -> b.jam(2, 0));
        Edges.refused(board, Edges.INVALID, "mend(2, 7)", b -> b.mend(2, 7));
        Edges.refused(board, Edges.INVALID, "pass(201)", b -> b.pass(201));
        Edges.refused(board, Edges.INVALID, "secondsFor(0, 2)", b -> b.secondsFor(0, 2));
        Edges.refused(board, Edges.INVALID, "bestOrder(63, 0)", b -> b.bestOrder(63, 0));
        Edges.refused(new Board(), Edges.ILLEGAL, "undo()", Board::undo);
        Board text = new Board();
        Boards.type(text, "a=01;>");
        Edges.refused(text, Edges.INVALID, "appendCharacter(256)", b -> b.appendCharacter(256));
    }

    /** The same calls with refused ones between them come to the same. */
    private static void nothingBetweenOthers() {
        Board plain = new Board();
        Board disturbed = new Board();
        int[][] calls = {
            {Calls.BEGIN, 9, 0, 0}, {Calls.SET_COLUMN, 0, 0, 127}, {Calls.SET_COLUMN, 1, 0, 5},
            {Calls.ADD_MESSAGE, 0, 26, 0}, {Calls.ADD_MESSAGE, 1, 0, 0}, {Calls.SET_NUMBER, 0, 4, 0},
            {Calls.JAM, 3, 1, 0}, {Calls.SHOW, 0, 0, 0}, {Calls.PASS, 2, 0, 0}, {Calls.SHOW, 1, 1, 0},
            {Calls.PASS, 1, 0, 0}, {Calls.APPEND_CHARACTER, 'a', 0, 0}, {Calls.SET_NUMBER, 2, 1, 0},
            {Calls.APPEND_CHARACTER, '=', 0, 0}, {Calls.UNDO, 0, 0, 0}, {Calls.DARKEN, 0, 0, 0},
            {Calls.PASS, 3, 0, 0}, {Calls.MEND, 3, 1, 0}, {Calls.REMOVE_MESSAGE, 0, 0, 0},
        };
        for (int[] call : calls) {
            int want = plain.call(call[0], call[1], call[2], call[3]);
            Check.due("call " + call[0], disturbed.call(call[0], call[1], call[2], call[3]), want);
            disturb(disturbed);
        }
        Check.same("the same end", disturbed.whole(), plain.whole());
    }

    private static void disturb(Board board) {
        int[][] refused = {
            {Calls.BEGIN, 5, 0, 0}, {Calls.SET_NUMBER, 3, 5, 0}, {Calls.SET_COLUMN, 26, 0, 0},
            {Calls.ADD_MESSAGE, -1, 0, 0}, {Calls.REMOVE_MESSAGE, 8, 0, 0}, {Calls.APPEND_CHARACTER, 256, 0, 0},
            {Calls.SHOW, 8, 0, 0}, {Calls.JAM, 0, 7, 0}, {Calls.MEND, -1, 0, 0}, {Calls.PASS, 0, 0, 0},
        };
        for (int[] call : refused) {
            Check.due("refused " + call[0], board.call(call[0], call[1], call[2], call[3]), Edges.INVALID);
        }
    }

    private static void namedFirst() {
        Board board = full();
        Edges.refused(board, Edges.INVALID, "addMessage(27, 0), full", b -> b.addMessage(27, 0));
        Edges.refused(board, Edges.INVALID, "addMessage(0, -2), full", b -> b.addMessage(0, -2));
        Edges.refused(board, Edges.INVALID, "appendCharacter(256), full", b -> b.appendCharacter(256));
        Edges.refused(board, Edges.INVALID, "appendCharacter(-1), full", b -> b.appendCharacter(-1));
        // beside the board or the column there is a stuck dot, (2, 0), if the numbers wrapped around
        Edges.refused(board, Edges.INVALID, "jam(2, 7)", b -> b.jam(2, 7));
        Edges.refused(board, Edges.INVALID, "jam(1, 7)", b -> b.jam(1, 7));
        Edges.refused(board, Edges.INVALID, "jam(8, 0)", b -> b.jam(8, 0));
        Edges.refused(board, Edges.INVALID, "jam(2, 32)", b -> b.jam(2, 32));
    }

    private static void noneIsLast() {
        Board board = Boards.withText(6, "a=01; >a; >b;");
        Check.due("letter(26, 0)", board.letter(26, 0), Edges.INVALID);
        Check.due("letter(-1, 5)", board.letter(-1, 5), Edges.INVALID);
        Check.due("letter(1, -1), without columns", board.letter(1, -1), Edges.INVALID);
        Check.due("letter(1, 0)", board.letter(1, 0), Edges.NONE);
        Check.due("message(2, 12)", board.message(2, 12), Edges.INVALID);
        Check.due("message(-1, 12)", board.message(-1, 12), Edges.INVALID);
        Check.due("message(0, -1)", board.message(0, -1), Edges.INVALID);
        Check.due("message(0, 1)", board.message(0, 1), Edges.NONE);
        Check.due("power(0), no second", board.power(0), Edges.INVALID);
        Check.due("power(21), no second", board.power(21), Edges.INVALID);
        Check.due("power(20), no second", board.power(20), Edges.NONE);
        Check.due("bestOrder(0, 1)", board.bestOrder(0, 1), Edges.INVALID);
        Check.due("bestOrder(4, 2)", board.bestOrder(4, 2), Edges.INVALID);
        Check.due("bestOrder(1, 6)", board.bestOrder(1, 6), Edges.INVALID);
        Check.due("bestOrder(1, -1)", board.bestOrder(1, -1), Edges.INVALID);
        Check.due("bestOrder(1, 2)", board.bestOrder(1, 2), Edges.NONE);
    }

    private static void invalidArgument() {
        Check.due("the constant", FlipBoard.INVALID_ARGUMENT, -1001);
        Board board = new Board();
        Check.due("out of range", board.begin(41), -1001);
        Check.due("does not exist", board.strip(0), -1001);
        Check.due("did exist", Boards.withText(6, ">a;").removeMessage(0), 0);
        Check.due("not among so many columns", board.column(20, 0), -1001);
    }

    private static void illegalState() {
        Check.due("the constant", FlipBoard.ILLEGAL_STATE, -1002);
        Board board = new Board();
        Check.due("nothing to undo", board.undo(), -1002);
        board.jam(0, 0);
        Check.due("stuck already", board.jam(0, 0), -1002);
        board.mend(0, 0);
        Check.due("possible again", board.jam(0, 0), 0);
    }

    private static void capacityExceeded() {
        Check.due("the constant", FlipBoard.CAPACITY_EXCEEDED, -1003);
        Board board = full();
        Check.due("no room for a message", board.addMessage(0, -1), -1003);
        Check.due("no room for a character", board.appendCharacter(0), -1003);
        board.removeMessage(0);
        board.clearText();
        Check.due("room for a message", board.addMessage(0, -1), 7);
        Check.due("room for a character", board.appendCharacter(0), 1);
    }

    private static void none() {
        Check.due("the constant", FlipBoard.NONE, -1009);
        Board board = Boards.withText(6, ">a;");
        String before = board.whole();
        Check.due("no column", board.letter(0, 0), -1009);
        Check.due("no character", board.message(0, 1), -1009);
        Check.due("no second", board.power(1), -1009);
        Check.due("no second message", board.bestOrder(1, 2), -1009);
        Check.same("nothing changes", board.whole(), before);
    }

    private static void unchangedBy(Board board, int from, int to) {
        String before = board.whole();
        for (int promise = from; promise <= to; promise++) {
            for (int a = -1; a <= 3; a++) {
                for (int b = -1; b <= 2; b++) {
                    board.call(promise, a, b, 1);
                }
            }
            Check.same("changed by " + promise, board.whole(), before);
        }
    }

    private static void looking() {
        unchangedBy(Edges.busy(), Calls.COUNT, Calls.POWER);
        unchangedBy(new Board(), Calls.COUNT, Calls.POWER);
    }

    private static void whatWouldBe() {
        unchangedBy(Edges.busy(), Calls.BEST_SHIFT, Calls.BEST_ORDER);
        unchangedBy(new Board(), Calls.BEST_SHIFT, Calls.BEST_ORDER);
    }
}
