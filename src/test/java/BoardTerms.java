/** The edges that "Board" names. */
final class BoardTerms {
    private static final String BOARD = "Board";

    private BoardTerms() {
    }

    static void test() {
        Document.test(BOARD, "The board has W columns, 6 to 40 (at first 20), numbered from 0 at the left",
            BoardTerms::columns);
        Document.test(BOARD, "and 7 rows, numbered from 0 at the top", BoardTerms::rows);
        Document.test(BOARD, "Each dot shows its dark side (0, at first) or its bright side (1), has made a"
            + " number of flips, and is stuck or not", BoardTerms::sides);
        Document.test(BOARD, "a stuck dot is known to be stuck or not", BoardTerms::known);
        Document.test(BOARD, "A column of dots is told as bits, bit r for row r: 1 for a bright dot",
            BoardTerms::bits);
        Document.test(BOARD, "The aim is a picture of the whole board, at first all dark", BoardTerms::aim);
    }

    private static void columns() {
        Board board = new Board();
        columnsAre(board, 20);
        Edges.refused(board, Edges.INVALID, "begin(5)", b -> b.begin(5));
        Edges.refused(board, Edges.INVALID, "begin(41)", b -> b.begin(41));
        columnsAre(board, 20);
        board.begin(6);
        columnsAre(board, 6);
        board.begin(40);
        columnsAre(board, 40);
        Board left = Boards.withText(6, "e=0102030405; >e;");
        left.show(0, 0);
        left.pass(2);
        Edges.shows("the strip's first column at the left", left, 1, 2, 3, 4, 5, 0);
    }

    private static void columnsAre(Board board, int columns) {
        Check.due("W", board.count(Boards.WIDTH), columns);
        Check.due("column -1", board.column(-1, 0), Edges.INVALID);
        Check.due("column 0", board.column(0, 0), 0);
        Check.due("the last column", board.column(columns - 1, 0), 0);
        Check.due("one column more", board.column(columns, 0), Edges.INVALID);
    }

    private static void rows() {
        Board board = Boards.withText(6, "a=41; >a;");
        Check.due("row -1", board.flips(0, -1), Edges.INVALID);
        Check.due("row 0", board.flips(0, 0), 0);
        Check.due("row 6", board.flips(0, 6), 0);
        Check.due("row 7", board.flips(0, 7), Edges.INVALID);
        board.setNumber(0, 2);
        board.show(0, 0);
        board.pass(1);
        Edges.shows("row 0 is the one at the top", board, 0, 0, 1, 0, 0, 0);
        board.pass(1);
        Edges.shows("row 6 is the one at the bottom", board, 0, 0, 0x41, 0, 0, 0);
    }

    private static void sides() {
        Board board = Boards.withText(6, "a=08; >a;");
        dotIs(board, 0, 0, 0);
        board.show(0, 0);
        dotIs(board, 0, 0, 0);
        board.pass(1);
        dotIs(board, 8, 1, 0);
        board.darken();
        board.pass(1);
        dotIs(board, 0, 2, 0);
        board.jam(2, 3);
        dotIs(board, 0, 2, 8);
    }

    private static void dotIs(Board board, int shown, int flips, int stuck) {
        Check.due("shown", board.column(2, 0), shown);
        Check.due("flips", board.flips(2, 3), flips);
        Check.due("stuck", board.column(2, 2), stuck);
    }

    private static void known() {
        Board board = Boards.withText(6, "a=08; >a;");
        board.jam(2, 3);
        Check.due("stuck", board.column(2, 2), 8);
        Check.due("not known", board.column(2, 3), 0);
        board.show(0, 0);
        board.pass(1);
        Check.due("still stuck", board.column(2, 2), 8);
        Check.due("known", board.column(2, 3), 8);
        board.mend(2, 3);
        Check.due("not stuck", board.column(2, 2), 0);
        Check.due("nor known to be", board.column(2, 3), 0);
    }

    private static void bits() {
        for (int row = 0; row < 7; row++) {
            Board board = Boards.withText(6, ">a;");
            board.setColumn(0, 0, 1 << row);
            Check.due("one dot, row " + row, board.show(0, 0), 1);
            Check.due("aim, row " + row, board.column(2, 1), 1 << row);
            board.pass(1);
            Check.due("shown, row " + row, board.column(2, 0), 1 << row);
            for (int other = 0; other < 7; other++) {
                Check.due("flips of row " + other, board.flips(2, other), other == row ? 1 : 0);
            }
        }
        Board full = Boards.withText(6, "a=7f; >a;");
        full.show(0, 0);
        full.pass(1);
        Check.due("all dots bright", full.column(2, 0), 127);
    }

    private static void aim() {
        Board board = new Board();
        for (int column = 0; column < 20; column++) {
            Check.due("at first dark, column " + column, board.column(column, 1), 0);
        }
        Board full = Boards.withText(40, "e=7f7f7f7f7f; >eeeeeeeeeeee;");
        full.show(0, 0);
        for (int column = 0; column < 40; column++) {
            Check.due("whole board, column " + column, full.column(column, 1), column % 6 == 5 ? 0 : 127);
        }
    }
}
