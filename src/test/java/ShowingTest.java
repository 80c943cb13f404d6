/** Promises 10 to 14: show, darken, jam, mend, pass. */
public final class ShowingTest {
    private static final int INVALID = Boards.INVALID;
    private static final int ILLEGAL = Boards.ILLEGAL;

    public static void main(String[] args) {
        show();
        showStays();
        showBestShift();
        darken();
        jam();
        mend();
        passArguments();
        passFromTheLeft();
        passFromTheRight();
        passByDueDots();
        passByDueDotsAnew();
        passTriesStuckDots();
        passEndsLives();
        passLeavesAUnit();
        passWithGreatPower();
        Check.end();
    }

    private static void columnsAre(String what, Board board, int side, int... bits) {
        for (int column = 0; column < bits.length; column++) {
            Check.due(what + ", column " + column, board.column(column, side), bits[column]);
        }
    }

    private static void show() {
        Board board = Boards.withText(8, "a=7f0102; >a; >aa;");
        Check.due("10: no message 2", board.show(2, 0), INVALID);
        Check.due("10: no message -1", board.show(-1, 0), INVALID);
        Check.due("10: no message 8", board.show(8, 1), INVALID);
        Check.due("10: how -1", board.show(0, -1), INVALID);
        Check.due("10: how 2", board.show(0, 2), INVALID);
        Check.due("10: how greatest", board.show(0, Integer.MAX_VALUE), INVALID);
        Check.due("10: nothing saved", board.count(Boards.SAVED), 2);
        Check.due("10: show", board.show(0, 0), 9);
        Check.due("10: saved", board.count(Boards.SAVED), 3);
        columnsAre("10: aim", board, 1, 0, 0, 127, 1, 2, 0, 0, 0);
        columnsAre("10: shown", board, 0, 0, 0, 0, 0, 0, 0, 0, 0);
        Check.due("10: seven columns", board.show(1, 0), 18);
        columnsAre("10: aim of seven", board, 1, 127, 1, 2, 0, 127, 1, 2, 0);
        board.pass(9);
        Check.due("10: back", board.show(0, 0), 23);
        board.pass(9);
        Check.due("10: the same", board.show(0, 0), 0);
        Board narrow = Boards.withText(6, "a=7f7f7f7f7f; >aa;");
        Check.due("10: what lies beside the board is not due", narrow.show(0, 0), 35);
    }

    private static void showStays() {
        Board board = Boards.withText(8, "a=7f; >a;");
        board.show(0, 0);
        board.setColumn(0, 0, 1);
        board.setColumn(0, 1, 1);
        Check.due("10: the aim stays", board.column(3, 1), 127);
        Check.due("10: and the due dots", board.count(Boards.DUE), 7);
        Check.due("10: as it is then", board.show(0, 0), 2);
        columnsAre("10: new aim", board, 1, 0, 0, 0, 1, 1, 0, 0, 0);
    }

    private static void showBestShift() {
        Board board = Boards.withText(8, "a=7f; b=03; >a; >b;");
        board.jam(3, 0);
        board.show(0, 0);
        board.pass(2);
        columnsAre("10: worked", board, 0, 0, 0, 0, 126, 0, 0, 0, 0);
        Check.due("10: round the dark dot", board.show(1, 1), 8);
        columnsAre("10: moved", board, 1, 0, 0, 3, 0, 0, 0, 0, 0);
        Check.due("10: not moved", board.show(1, 0), 5);
        columnsAre("10: unmoved", board, 1, 0, 0, 0, 3, 0, 0, 0, 0);
        board.show(0, 1);
        columnsAre("10: a moved", board, 1, 0, 0, 127, 0, 0, 0, 0, 0);
    }

    private static void darken() {
        Board board = Boards.withText(6, "a=7f; >a;");
        board.show(0, 0);
        Check.due("11: nothing shown yet", board.darken(), 0);
        columnsAre("11: aim", board, 1, 0, 0, 0, 0, 0, 0);
        Check.due("11: saved", board.count(Boards.SAVED), 4);
        board.show(0, 0);
        board.pass(2);
        board.jam(2, 3);
        Check.due("11: bright dots are due", board.darken(), 7);
        board.pass(2);
        Check.due("11: a stuck one is known", board.darken(), 0);
        Check.due("11: and stays bright", board.column(2, 0), 8);
    }

    private static void jam() {
        Board board = Boards.withText(6, "a=7f; >a;");
        Check.due("12: column -1", board.jam(-1, 0), INVALID);
        Check.due("12: column 6", board.jam(6, 0), INVALID);
        Check.due("12: column greatest", board.jam(Integer.MAX_VALUE, 0), INVALID);
        Check.due("12: row -1", board.jam(0, -1), INVALID);
        Check.due("12: row 7", board.jam(0, 7), INVALID);
        Check.due("12: row least", board.jam(0, Integer.MIN_VALUE), INVALID);
        Check.due("12: nothing saved", board.count(Boards.SAVED), 2);
        Check.due("12: no flips", board.jam(5, 6), 0);
        Check.due("12: again", board.jam(5, 6), ILLEGAL);
        Check.due("12: saved once", board.count(Boards.SAVED), 3);
        Check.due("12: stuck", board.column(5, 2), 64);
        Check.due("12: not known", board.column(5, 3), 0);
        Check.due("12: still dark", board.column(5, 0), 0);
        board.show(0, 0);
        board.pass(2);
        board.darken();
        board.pass(2);
        board.show(0, 0);
        board.pass(2);
        Check.due("12: three flips", board.jam(2, 1), 3);
        Check.due("12: stuck on the bright side", board.column(2, 0), 127);
        board.darken();
        board.pass(2);
        Check.due("12: bright for good", board.column(2, 0), 2);
        Check.due("12: its flips stay", board.flips(2, 1), 3);
        Check.due("12: known and stuck", board.jam(2, 1), ILLEGAL);
        board.setNumber(2, 1);
        board.show(0, 0);
        board.pass(2);
        Check.due("12: stuck at its life's end", board.jam(2, 0), ILLEGAL);
    }

    private static void mend() {
        Board board = Boards.withText(6, "a=7f; >a;");
        Check.due("13: column -1", board.mend(-1, 0), INVALID);
        Check.due("13: column 6", board.mend(6, 0), INVALID);
        Check.due("13: column least", board.mend(Integer.MIN_VALUE, 0), INVALID);
        Check.due("13: row -1", board.mend(0, -1), INVALID);
        Check.due("13: row 7", board.mend(0, 7), INVALID);
        Check.due("13: row greatest", board.mend(0, Integer.MAX_VALUE), INVALID);
        Check.due("13: nothing saved", board.count(Boards.SAVED), 2);
        Check.due("13: nothing to mend", board.mend(0, 0), 0);
        Check.due("13: saved all the same", board.count(Boards.SAVED), 3);
        board.setNumber(2, 1);
        board.show(0, 0);
        board.pass(2);
        board.darken();
        board.pass(1);
        Check.due("13: all known", board.column(2, 3), 127);
        Check.due("13: mended", board.mend(2, 4), 1);
        Check.due("13: not stuck", board.column(2, 2), 127 - 16);
        Check.due("13: not known", board.column(2, 3), 127 - 16);
        Check.due("13: still bright", board.column(2, 0), 127);
        Check.due("13: no flips", board.flips(2, 4), 0);
        Check.due("13: others as they were", board.flips(2, 3), 1);
        Check.due("13: due again", board.count(Boards.DUE), 1);
        Check.due("13: all flips stay counted", board.count(Boards.FLIPS), 7);
        Check.due("13: tries stay counted", board.count(Boards.TRIES), 7);
        Check.due("13: again", board.mend(2, 4), 0);
        Check.due("13: not passed", board.count(Boards.DUE), 1);
        board.pass(1);
        Check.due("13: flips again", board.flips(2, 4), 1);
        Check.due("13: dark", board.column(2, 0), 127 - 16);
        board.setNumber(2, 100);
        board.mend(2, 0);
        board.pass(1);
        Check.due("13: flips of one that was stuck", board.flips(2, 0), 1);
        Check.due("13: mend one that is not stuck", board.mend(2, 0), 0);
        Check.due("13: its flips are 0 then, too", board.flips(2, 0), 0);
    }

    private static void passArguments() {
        Board board = new Board();
        Check.due("14: 0", board.pass(0), INVALID);
        Check.due("14: 201", board.pass(201), INVALID);
        Check.due("14: -1", board.pass(-1), INVALID);
        Check.due("14: greatest", board.pass(Integer.MAX_VALUE), INVALID);
        Check.due("14: nothing saved", board.count(Boards.SAVED), 0);
        Check.due("14: no second", board.count(Boards.SECONDS), 0);
        Check.due("14: 200", board.pass(200), 0);
        Check.due("14: seconds without due dots", board.count(Boards.SECONDS), 200);
        Check.due("14: 1", board.pass(1), 0);
        Check.due("14: 201 seconds", board.count(Boards.SECONDS), 201);
        Check.due("14: saved", board.count(Boards.SAVED), 2);
        Check.due("14: no power", board.count(Boards.POWER), 0);
    }

    /** Columns of 3, 1 and 7 dots; 10 units at first. */
    private static Board threeColumns(int order, int power) {
        Board board = Boards.withText(6, "a=54007f; b=08; >a; >ab;");
        board.setColumn(0, 1, 8);
        board.setNumber(1, order);
        board.setNumber(0, power);
        Check.due("14: eleven due", board.show(0, 0), 11);
        return board;
    }

    private static void passFromTheLeft() {
        Board board = threeColumns(0, 10);
        Check.due("14: left, first", board.pass(1), 4);
        columnsAre("14: left", board, 0, 0, 0x54, 8, 7, 0, 0);
        Check.due("14: left, power", board.power(1), 10);
        Check.due("14: left, second", board.pass(1), 0);
        Check.due("14: a column again takes its unit again", board.power(1), 5);
        Check.due("14: power in all", board.count(Boards.POWER), 15);
        Check.due("14: flips", board.count(Boards.FLIPS), 11);
        Check.due("14: flips of one", board.flips(1, 2), 1);
        Check.due("14: flips of none", board.flips(1, 3), 0);
    }

    private static void passFromTheRight() {
        Board board = threeColumns(1, 5);
        Check.due("14: right, first", board.pass(1), 7);
        columnsAre("14: right", board, 0, 0, 0, 0, 15, 0, 0);
        Check.due("14: right, second", board.pass(1), 4);
        columnsAre("14: only one unit left", board, 0, 0, 0, 0, 127, 0, 0);
        Check.due("14: right, power", board.power(1), 4);
        Check.due("14: right, third", board.pass(1), 1);
        columnsAre("14: right to left", board, 0, 0, 0x14, 8, 127, 0, 0);
        Check.due("14: right, the rest", board.pass(1), 0);
        Check.due("14: right, all power", board.count(Boards.POWER), 5 + 4 + 5 + 2);
    }

    private static void passByDueDots() {
        Board board = threeColumns(2, 10);
        Check.due("14: greatest first", board.pass(1), 3);
        columnsAre("14: seven and one of three", board, 0, 0, 4, 0, 127, 0, 0);
        Check.due("14: greatest, power", board.power(1), 10);
        Check.due("14: greatest, the rest", board.pass(1), 0);
        Check.due("14: greatest, power of the rest", board.power(1), 5);
        Board other = threeColumns(2, 9);
        Check.due("14: only one unit left", other.pass(1), 4);
        Check.due("14: it is not used", other.power(1), 8);
    }

    /** In each second the due dots are counted anew; of several columns the leftmost is first. */
    private static void passByDueDotsAnew() {
        Board board = Boards.withText(6, "a=1f1f07; >a;");
        board.setNumber(1, 2);
        board.setNumber(0, 4);
        board.show(0, 0);
        int[][] shown = {{7, 0, 0}, {7, 7, 0}, {7, 7, 7}, {31, 7, 7}, {31, 31, 7}};
        int[] power = {4, 4, 4, 3, 3};
        for (int second = 0; second < shown.length; second++) {
            board.pass(1);
            for (int column = 0; column < 3; column++) {
                Check.due("14: anew", board.column(1 + column, 0), shown[second][column]);
            }
            Check.due("14: anew, power", board.power(1), power[second]);
        }
        Check.due("14: anew, none due", board.count(Boards.DUE), 0);
        Board edge = Boards.withText(6, "a=0100000003; >a;");
        edge.setNumber(1, 2);
        edge.setNumber(0, 3);
        edge.show(0, 0);
        edge.pass(1);
        columnsAre("14: the first column is not the first", edge, 0, 0, 0, 0, 0, 3, 0);
        edge.pass(1);
        columnsAre("14: but it is the second", edge, 0, 1, 0, 0, 0, 3, 0);
    }

    private static void passTriesStuckDots() {
        Board board = Boards.withText(6, "a=7f; >a;");
        board.setNumber(0, 4);
        board.jam(2, 0);
        board.jam(2, 3);
        board.show(0, 0);
        int[] due = {4, 1, 0, 0};
        int[] known = {1, 9, 9, 9};
        int[] shown = {6, 0x36, 0x76, 0x76};
        int[] tries = {1, 2, 2, 2};
        int[] flips = {2, 4, 5, 5};
        int[] power = {4, 4, 2, 0};
        for (int second = 0; second < due.length; second++) {
            Check.due("14: tried, due", board.pass(1), due[second]);
            Check.due("14: tried, known", board.column(2, 3), known[second]);
            Check.due("14: tried, stuck", board.column(2, 2), 9);
            Check.due("14: tried, shown", board.column(2, 0), shown[second]);
            Check.due("14: tried, tries", board.count(Boards.TRIES), tries[second]);
            Check.due("14: tried, flips", board.count(Boards.FLIPS), flips[second]);
            Check.due("14: tried, power", board.power(1), power[second]);
        }
        Check.due("14: a stuck dot makes no flip", board.flips(2, 0), 0);
        Check.due("14: others stay", board.count(Boards.OTHER), 2);
        Check.due("14: dark again", board.darken(), 5);
        Check.due("14: none other", board.pass(9), 0);
        Check.due("14: not tried again", board.count(Boards.TRIES), 2);
    }

    private static void passEndsLives() {
        Board board = Boards.withText(6, "a=03; >a;");
        board.setNumber(2, 2);
        board.show(0, 0);
        board.pass(1);
        Check.due("14: one flip of two", board.count(Boards.STUCK), 0);
        board.darken();
        Check.due("14: the second flip is made", board.pass(1), 0);
        Check.due("14: dark", board.column(2, 0), 0);
        Check.due("14: stuck then", board.column(2, 2), 3);
        Check.due("14: not known yet", board.column(2, 3), 0);
        Check.due("14: due, for it is not known", board.show(0, 0), 2);
        Check.due("14: tried", board.pass(1), 0);
        Check.due("14: known then", board.column(2, 3), 3);
        Check.due("14: no third flip", board.flips(2, 0), 2);
        Check.due("14: flips in all", board.count(Boards.FLIPS), 4);
        Check.due("14: tries in all", board.count(Boards.TRIES), 2);
        Board longest = Boards.withText(6, "a=01; >a;");
        for (int flip = 1; flip <= 100; flip++) {
            longest.show(0, 0);
            if (flip % 2 == 0) {
                longest.darken();
            }
            longest.pass(1);
            Check.due("14: a first life of 100", longest.column(2, 2), flip < 100 ? 0 : 1);
            Check.due("14: flips of a life", longest.flips(2, 0), flip);
        }
    }

    private static void passLeavesAUnit() {
        Board board = Boards.withText(6, "a=010101; >a;");
        board.setNumber(0, 3);
        board.show(0, 0);
        Check.due("14: a unit left ahead of a column", board.pass(1), 2);
        Check.due("14: is not used", board.power(1), 2);
        Check.due("14: nor kept", board.pass(1), 1);
        Check.due("14: the second second", board.power(1), 2);
        Check.due("14: power in all", board.count(Boards.POWER), 4);
        Board least = Boards.withText(6, "a=03; >a;");
        least.setNumber(0, 2);
        least.show(0, 0);
        Check.due("14: the least power", least.pass(1), 1);
        columnsAre("14: from the top down", least, 0, 0, 0, 1, 0, 0, 0);
        Check.due("14: two units", least.power(1), 2);
    }

    private static void passWithGreatPower() {
        Board board = Boards.withText(40, "a=7f7f7f7f7f; >aaaaaaaaaaaa;");
        board.setNumber(0, 50);
        Check.due("14: 34 full columns", board.show(0, 0), 238);
        Check.due("14: six columns and a dot", board.pass(1), 195);
        columnsAre("14: gaps take no power", board, 0, 127, 127, 127, 127, 127, 0, 127, 1, 0);
        Check.due("14: all units", board.power(1), 50);
        Check.due("14: to the right edge", board.pass(20), 0);
        Check.due("14: the last column", board.column(39, 0), 127);
    }
}
