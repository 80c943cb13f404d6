/** Promises 10 to 14: show, darken, jam, mend, pass. */
final class ShowingPromises {
    private ShowingPromises() {
    }

    static void test() {
        Document.test("Promise 10", "Shows a message", ShowingPromises::shows);
        Document.test("Promise 10", "`message`: a message", ShowingPromises::showMessage);
        Document.test("Promise 10", "`how`: 0 with the shift 0, 1 with the best shift", ShowingPromises::showHow);
        Document.test("Promise 10", "Returns the number of due dots then", ShowingPromises::showReturns);
        Document.test("Promise 10", "INVALID_ARGUMENT if an argument is out of range",
            ShowingPromises::showRefused);
        Document.test("Promise 11", "Makes the aim dark", ShowingPromises::darkens);
        Document.test("Promise 11", "Returns the number of due dots then", ShowingPromises::darkenReturns);
        Document.test("Promise 12", "Makes a dot stuck, on the side that it shows", ShowingPromises::jams);
        Document.test("Promise 12", "this is not known", ShowingPromises::jamNotKnown);
        Document.test("Promise 12", "`column`: 0 to W - 1", ShowingPromises::jamColumn);
        Document.test("Promise 12", "`row`: 0 to 6", ShowingPromises::jamRow);
        Document.test("Promise 12", "Returns the number of its flips", ShowingPromises::jamReturns);
        Document.test("Promise 12", "INVALID_ARGUMENT if an argument is out of range", ShowingPromises::jamRefused);
        Document.test("Promise 12", "ILLEGAL_STATE if it is stuck already", ShowingPromises::jamOfStuckDots);
        Document.test("Promise 13", "Mends a dot: it is not stuck, and has made no flips", ShowingPromises::mends);
        Document.test("Promise 13", "`column`: 0 to W - 1", ShowingPromises::mendColumn);
        Document.test("Promise 13", "`row`: 0 to 6", ShowingPromises::mendRow);
        Document.test("Promise 13", "Returns 1 if it was stuck, otherwise 0 (its flips are 0 then, too)",
            ShowingPromises::mendReturns);
        Document.test("Promise 13", "INVALID_ARGUMENT if an argument is out of range",
            ShowingPromises::mendRefused);
        Document.test("Promise 14", "Lets seconds pass", ShowingPromises::passes);
        Document.test("Promise 14", "Lets seconds pass", ShowingPromises::passesInEachOrder);
        Document.test("Promise 14", "`seconds`: 1 to 200", ShowingPromises::passSeconds);
        Document.test("Promise 14", "Returns the number of due dots then", ShowingPromises::passReturns);
        Document.test("Promise 14", "INVALID_ARGUMENT if seconds is out of range", ShowingPromises::passRefused);
    }

    private static void shows() {
        Board board = Boards.withText(6, "a=7f; b=0102030405; >a; >b; >q;");
        board.show(0, 0);
        Edges.aims("one column", board, 0, 0, 127, 0, 0, 0);
        board.show(1, 0);
        Edges.aims("five columns", board, 1, 2, 3, 4, 5, 0);
        board.show(2, 0);
        Edges.aims("no column", board, 0, 0, 0, 0, 0, 0);
        Edges.shows("nothing is flipped by that", board, 0, 0, 0, 0, 0, 0);
        Check.due("no power is used", board.count(Boards.POWER), 0);
        Check.due("no second passes", board.count(Boards.SECONDS), 0);
    }

    private static void showMessage() {
        Edges.range(Edges.busy(), 0, 5, 2, 5, (board, message) -> board.show(message, 0));
        Board eight = Boards.withText(6, "a=01;h=7f;>a;>b;>c;>d;>e;>f;>g;>h;");
        Edges.range(eight, 0, 1, 7, 7, (board, message) -> board.show(message, 0));
        Edges.refusedBeside(new Board(), 1, -1, (board, message) -> board.show(message, 0));
    }

    private static void showHow() {
        Board board = Boards.withText(8, "a=7f; b=7f7f; >a; >b;");
        board.jam(3, 0);
        board.show(0, 0);
        board.pass(1);
        Edges.range(board, 0, 0, 1, 13, (b, how) -> b.show(0, how));
        board.show(0, 0);
        Edges.aims("the shift 0", board, 0, 0, 0, 127, 0, 0, 0, 0);
        board.show(0, 1);
        Edges.aims("the best shift", board, 0, 0, 127, 0, 0, 0, 0, 0);
    }

    private static void showReturns() {
        Board board = Boards.withText(8, "a=7f; b=03; >a; >b; >q;");
        Check.due("all", board.show(0, 0), 7);
        Check.due("counted", board.count(Boards.DUE), 7);
        Check.due("none", board.show(2, 0), 0);
        board.show(0, 0);
        board.pass(1);
        Check.due("none any more", board.show(0, 0), 0);
        Check.due("those to be dark", board.show(1, 0), 5);
        Check.due("all of them", board.show(2, 0), 7);
        board.jam(3, 0);
        Check.due("a stuck one that is not known", board.show(2, 0), 7);
        board.pass(1);
        board.show(0, 0);
        board.pass(1);
        Check.due("without the one that is known", board.show(2, 0), 6);
        Board full = Boards.withText(40, "e=7f7f7f7f7f; >eeeeeeeeeeee;");
        Check.due("34 columns", full.show(0, 0), 238);
    }

    private static void showRefused() {
        Board board = Edges.busy();
        Edges.refused(board, Edges.INVALID, "show(3, 0)", b -> b.show(3, 0));
        Edges.refused(board, Edges.INVALID, "show(3, 1)", b -> b.show(3, 1));
        Edges.refused(board, Edges.INVALID, "show(-1, 0)", b -> b.show(-1, 0));
        Edges.refused(board, Edges.INVALID, "show(0, 2)", b -> b.show(0, 2));
        Edges.refused(board, Edges.INVALID, "show(0, -1)", b -> b.show(0, -1));
        Edges.refused(new Board(), Edges.INVALID, "no message", b -> b.show(0, 0));
    }

    private static void darkens() {
        Board board = Boards.withText(40, "e=7f7f7f7f7f; >eeeeeeeeeeee;");
        board.show(0, 0);
        board.darken();
        Edges.aims("of 40 columns", board, new int[40]);
        board.show(0, 0);
        board.setNumber(0, 50);
        board.pass(9);
        board.darken();
        Check.due("what is shown stays", board.column(0, 0), 127);
        Edges.aims("of bright dots", board, new int[40]);
        board.darken();
        Edges.aims("again", board, new int[40]);
        Board none = new Board();
        Check.due("without messages", none.darken(), 0);
        Check.due("saved", none.count(Boards.SAVED), 1);
    }

    private static void darkenReturns() {
        Board board = Boards.withText(8, "a=7f; >a;");
        Check.due("dark dots", board.darken(), 0);
        board.show(0, 0);
        Check.due("dark dots that were due", board.darken(), 0);
        board.show(0, 0);
        board.pass(1);
        Check.due("bright dots", board.darken(), 7);
        board.jam(3, 6);
        Check.due("a stuck one that is not known", board.darken(), 7);
        board.pass(1);
        Check.due("a known one", board.darken(), 0);
        Check.due("shows its bright side", board.count(Boards.OTHER), 1);
    }

    private static void jams() {
        Board board = Boards.withText(8, "a=7f; >a;");
        board.jam(3, 0);
        board.show(0, 0);
        board.pass(1);
        Check.due("dark", board.column(3, 0), 0x7e);
        board.jam(3, 6);
        board.darken();
        board.pass(1);
        Check.due("bright", board.column(3, 0), 0x40);
        Check.due("both stuck", board.column(3, 2), 0x41);
        Check.due("others are not", board.count(Boards.STUCK), 2);
        board.show(0, 0);
        Check.due("the others flip", board.pass(1), 0);
        Check.due("but not these", board.column(3, 0), 0x7e);
    }

    private static void jamNotKnown() {
        Board board = Boards.withText(8, "a=7f; >a;");
        board.jam(3, 0);
        Check.due("stuck", board.count(Boards.STUCK), 1);
        Check.due("not known", board.count(Boards.KNOWN), 0);
        board.pass(5);
        Check.due("nor by seconds in which it is not due", board.count(Boards.KNOWN), 0);
        Check.due("it is due", board.show(0, 0), 7);
        board.pass(1);
        Check.due("known by trying", board.count(Boards.KNOWN), 1);
    }

    private static void jamColumn() {
        Edges.range(Edges.busy(), 0, 0, 7, 0, (board, column) -> board.jam(column, 0));
        Board least = new Board();
        least.begin(6);
        Edges.range(least, 0, 0, 5, 0, (board, column) -> board.jam(column, 6));
        Board most = new Board();
        most.begin(40);
        Edges.range(most, 0, 0, 39, 0, (board, column) -> board.jam(column, 6));
        most.jam(39, 6);
        most.jam(0, 0);
        Check.due("the last", most.column(39, 2), 64);
        Check.due("the first", most.column(0, 2), 1);
    }

    private static void jamRow() {
        Edges.range(Edges.busy(), 0, 0, 6, 0, (board, row) -> board.jam(5, row));
        Board board = new Board();
        for (int row = 0; row < 7; row++) {
            board.jam(5, row);
            Check.due("row " + row, board.column(5, 2), (2 << row) - 1);
        }
        Check.due("none in the next column", board.column(6, 2), 0);
        Check.due("none in the one ahead", board.column(4, 2), 0);
    }

    private static void jamReturns() {
        Board board = Boards.withText(6, "a=01; >a;");
        Check.due("none", board.jam(2, 1), 0);
        for (int flips = 1; flips <= 4; flips++) {
            Edges.flipTimes(board, 0, flips - 1, flips);
            Check.due("flips", board.jam(2, 0), flips);
            board.undo();
        }
        board.mend(2, 0);
        Check.due("none again", board.jam(2, 0), 0);
    }

    private static void jamRefused() {
        Board board = Edges.busy();
        Edges.refused(board, Edges.INVALID, "jam(8, 0)", b -> b.jam(8, 0));
        Edges.refused(board, Edges.INVALID, "jam(-1, 6)", b -> b.jam(-1, 6));
        Edges.refused(board, Edges.INVALID, "jam(0, 7)", b -> b.jam(0, 7));
        Edges.refused(board, Edges.INVALID, "jam(1, -1)", b -> b.jam(1, -1));
        Edges.refused(board, Edges.INVALID, "jam(8, 7)", b -> b.jam(8, 7));
    }

    private static void jamOfStuckDots() {
        Board board = Boards.withText(6, "a=03; >a;");
        board.jam(2, 0);
        Edges.refused(board, Edges.ILLEGAL, "jammed", b -> b.jam(2, 0));
        board.setNumber(2, 1);
        board.show(0, 0);
        board.pass(1);
        Edges.refused(board, Edges.ILLEGAL, "jammed and known", b -> b.jam(2, 0));
        Edges.refused(board, Edges.ILLEGAL, "at its life's end", b -> b.jam(2, 1));
        board.mend(2, 0);
        Check.due("mended", board.jam(2, 0), 0);
        board.undo();
        board.undo();
        Edges.refused(board, Edges.ILLEGAL, "as before it was mended", b -> b.jam(2, 0));
        board.begin(6);
        Check.due("behind begin()", board.jam(2, 0), 0);
    }

    private static void mends() {
        Board board = Boards.withText(6, "a=03; >a;");
        board.setNumber(2, 1);
        Edges.flipTimes(board, 0, 0, 2);
        Check.due("stuck, bright and known", board.column(2, 3), 3);
        board.mend(2, 0);
        Check.due("not stuck", board.column(2, 2), 2);
        Check.due("nor known to be", board.column(2, 3), 2);
        Check.due("no flips", board.flips(2, 0), 0);
        Check.due("those of the other one stay", board.flips(2, 1), 1);
        Check.due("the side stays", board.column(2, 0), 3);
        Check.due("all flips stay counted", board.count(Boards.FLIPS), 2);
        Check.due("it is due", board.count(Boards.DUE), 1);
        board.pass(1);
        Check.due("it flips", board.column(2, 0), 2);
        Check.due("its first flip", board.flips(2, 0), 1);
        Check.due("and sticks again", board.column(2, 2), 3);
    }

    private static void mendColumn() {
        Edges.range(Edges.busy(), 0, 0, 7, 1, (board, column) -> board.mend(column, 6));
        Board least = new Board();
        least.begin(6);
        least.jam(5, 6);
        Edges.range(least, 0, 0, 5, 1, (board, column) -> board.mend(column, 6));
        Board most = new Board();
        most.begin(40);
        most.jam(39, 0);
        Edges.range(most, 0, 0, 39, 1, (board, column) -> board.mend(column, 0));
    }

    private static void mendRow() {
        Edges.range(Edges.busy(), 0, 1, 6, 0, (board, row) -> board.mend(3, row));
        Edges.range(Edges.busy(), 0, 0, 6, 1, (board, row) -> board.mend(7, row));
    }

    private static void mendReturns() {
        Board board = Boards.withText(6, "a=01; >a;");
        Check.due("not stuck, no flips", board.mend(2, 0), 0);
        Edges.flipTimes(board, 0, 0, 3);
        Check.due("not stuck, three flips", board.mend(2, 0), 0);
        Check.due("its flips are 0", board.flips(2, 0), 0);
        board.jam(2, 0);
        Check.due("jammed", board.mend(2, 0), 1);
        Check.due("not any more", board.mend(2, 0), 0);
        board.setNumber(2, 1);
        Edges.flipTimes(board, 0, 3, 4);
        Check.due("at its life's end", board.mend(2, 0), 1);
        board.jam(2, 0);
        Edges.flipTimes(board, 0, 4, 5);
        Check.due("known", board.column(2, 3), 1);
        Check.due("known and stuck", board.mend(2, 0), 1);
        Check.due("flips are 0 then, too", board.flips(2, 0), 0);
    }

    private static void mendRefused() {
        Board board = Edges.busy();
        Edges.refused(board, Edges.INVALID, "mend(8, 0)", b -> b.mend(8, 0));
        Edges.refused(board, Edges.INVALID, "mend(-1, 6)", b -> b.mend(-1, 6));
        Edges.refused(board, Edges.INVALID, "mend(2, 7)", b -> b.mend(2, 7));
        Edges.refused(board, Edges.INVALID, "mend(4, -7)", b -> b.mend(4, -7));
        Edges.refused(board, Edges.INVALID, "mend(8, 7)", b -> b.mend(8, 7));
    }

    private static void passes() {
        Board once = Boards.withText(6, "a=7f7f7f; >a;");
        Board inTurn = Boards.withText(6, "a=7f7f7f; >a;");
        once.setNumber(0, 5);
        inTurn.setNumber(0, 5);
        once.show(0, 0);
        inTurn.show(0, 0);
        Check.due("four seconds at once", once.pass(4), 7);
        for (int second = 0; second < 4; second++) {
            inTurn.pass(1);
        }
        Check.same("as four times one second", once.look(), inTurn.look());
        Check.due("one saved state for all four", once.count(Boards.SAVED), 5);
        once.undo();
        Check.due("all four undone", once.count(Boards.SECONDS), 0);
    }

    /** Columns of 3, 1 and 7 dots; what is shown behind one second in each order, and the power of two. */
    private static void passesInEachOrder() {
        int[] powers = {10, 5, 10};
        int[][] shown = {{0x54, 8, 7}, {0, 0, 15}, {4, 0, 127}};
        int[][] used = {{10, 5}, {5, 4}, {10, 5}};
        for (int order = 0; order < 3; order++) {
            Board board = Boards.withText(6, "a=54087f; >a;");
            board.setNumber(0, powers[order]);
            board.setNumber(1, order);
            Check.due("eleven due", board.show(0, 0), 11);
            board.pass(1);
            Edges.shows("order " + order, board, 0, shown[order][0], shown[order][1], shown[order][2], 0, 0);
            Check.due("power of the first second", board.power(1), used[order][0]);
            board.pass(1);
            Check.due("power of the second second", board.power(1), used[order][1]);
            board.pass(9);
            Edges.shows("at last", board, 0, 0x54, 8, 127, 0, 0);
        }
    }

    private static void passSeconds() {
        Board board = Boards.withText(40, "e=7f7f7f7f7f; >eeeeeeeeeeee;");
        board.setNumber(0, 2);
        board.show(0, 0);
        Edges.range(board, 1, 237, 200, 38, Board::pass);
        board.pass(1);
        Check.due("1", board.count(Boards.SECONDS), 1);
        board.pass(200);
        Check.due("200", board.count(Boards.SECONDS), 201);
        Check.due("flips", board.count(Boards.FLIPS), 201);
    }

    private static void passReturns() {
        Board board = Boards.withText(6, "a=7f; >a; >q;");
        Check.due("none", board.pass(1), 0);
        board.setNumber(0, 4);
        board.show(0, 0);
        Check.due("four", board.pass(1), 4);
        Check.due("counted", board.count(Boards.DUE), 4);
        board.jam(2, 6);
        Check.due("none that is not known", board.pass(2), 0);
        Check.due("though one shows another side", board.count(Boards.OTHER), 1);
    }

    private static void passRefused() {
        Board board = Edges.busy();
        Edges.refused(board, Edges.INVALID, "pass(0)", b -> b.pass(0));
        Edges.refused(board, Edges.INVALID, "pass(201)", b -> b.pass(201));
        Edges.refused(board, Edges.INVALID, "pass(-1)", b -> b.pass(-1));
        Edges.refused(new Board(), Edges.INVALID, "pass(0), new", b -> b.pass(0));
    }
}
