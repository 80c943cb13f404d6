/** Promises 1 to 4: a new object, begin, setNumber, setColumn. */
final class SettingsPromises {
    private SettingsPromises() {
    }

    static void test() {
        Document.test("Promise 1", "Creates a dark board of 20 columns, without columns of letters and messages,"
            + " with an empty text", SettingsPromises::newObject);
        Document.test("Promise 2", "all dots dark, without flips, not stuck", SettingsPromises::beginDots);
        Document.test("Promise 2", "the aim dark", SettingsPromises::beginAim);
        Document.test("Promise 2", "nothing counted", SettingsPromises::beginCounts);
        Document.test("Promise 2", "Letters, messages and numbers stay", SettingsPromises::beginKeeps);
        Document.test("Promise 2", "`columns`: 6 to 40", SettingsPromises::beginColumns);
        Document.test("Promise 2", "Returns the previous number of columns", SettingsPromises::beginReturns);
        Document.test("Promise 2", "INVALID_ARGUMENT if columns is out of range", SettingsPromises::beginRefused);
        Document.test("Promise 3", "Sets a number", SettingsPromises::setNumberSets);
        Document.test("Promise 3", "(Dots that are stuck stay stuck", SettingsPromises::stuckDotsStay);
        Document.test("Promise 3", "a dot that has made as many flips already sticks with its next one",
            SettingsPromises::sticksWithTheNext);
        Document.test("Promise 3", "`what`: 0 P, 1 the order (0 to 2), 2 the length of a life",
            SettingsPromises::setNumberWhat);
        Document.test("Promise 3", "`value`: in its range", SettingsPromises::setNumberValue);
        Document.test("Promise 3", "Returns the previous number", SettingsPromises::setNumberReturns);
        Document.test("Promise 3", "INVALID_ARGUMENT if what or value is out of range",
            SettingsPromises::setNumberRefused);
        Document.test("Promise 4", "Sets a column of a letter, or adds one behind the others",
            SettingsPromises::setColumnSetsOrAdds);
        Document.test("Promise 4", "`letter`: 0 to 25", SettingsPromises::setColumnLetter);
        Document.test("Promise 4", "`index`: 0 to the number of its columns, at most 4",
            SettingsPromises::setColumnIndex);
        Document.test("Promise 4", "`bits`: 0 to 127", SettingsPromises::setColumnBits);
        Document.test("Promise 4", "Returns the number of its columns then", SettingsPromises::setColumnReturns);
        Document.test("Promise 4", "INVALID_ARGUMENT if an argument is out of range",
            SettingsPromises::setColumnRefused);
    }

    private static void newObject() {
        Board board = new Board();
        Edges.shows("dark", board, 0, 0, 0, 0, 0, 0, 0, 0, 0, 0, 0, 0, 0, 0, 0, 0, 0, 0, 0, 0);
        Check.due("no column 20", board.column(20, 0), Edges.INVALID);
        int[] counts = {20, 10, 0, 100, 0, 0, 0, 0, 0, 0, 0, 0, 0, 0, 0};
        for (int what = 0; what < counts.length; what++) {
            Check.due("count " + what, board.count(what), counts[what]);
        }
        for (int letter = 0; letter < 26; letter++) {
            Check.due("letter " + letter, board.letter(letter, 0), Edges.NONE);
        }
        Check.due("no message", board.message(0, 0), Edges.INVALID);
        Check.due("no text", board.clearText(), 0);
        Check.due("no second", board.power(1), Edges.NONE);
        Check.due("no saved state", board.undo(), Edges.ILLEGAL);
        String before = new Board().whole();
        Edges.busy();
        Check.same("another object's calls change nothing", new Board().whole(), before);
    }

    /** Bright dots, stuck dots and known ones from the first to the last of 40 columns, all counts above 0. */
    private static Board worn() {
        Board board = Boards.withText(40, "e=7f7f7f7f7f; >eeeeeeeeeeee; >e;");
        board.setNumber(0, 50);
        board.setNumber(2, 1);
        board.jam(39, 6);
        board.show(0, 0);
        board.pass(9);
        board.darken();
        board.pass(3);
        Check.due("bright", board.column(0, 0), 127);
        Check.due("stuck", board.column(39, 2), 127);
        Check.due("known", board.column(0, 3), 127);
        Check.due("flips", board.flips(0, 0), 1);
        return board;
    }

    private static void beginDots() {
        Board board = worn();
        board.begin(40);
        for (int what = 0; what < 4; what++) {
            Edges.sidesAre("side " + what, board, what, new int[40]);
        }
        Board flips = board.again();
        for (int column = 0; column < 40; column++) {
            Check.due("flips at the top", flips.flips(column, 0), 0);
            Check.due("flips at the bottom", flips.flips(column, 6), 0);
        }
        board.setNumber(2, 100);
        board.show(1, 0);
        Check.due("all of them flip again", board.pass(1), 0);
        Board narrow = worn();
        narrow.begin(6);
        for (int what = Boards.DUE; what <= Boards.OTHER; what++) {
            Check.due("count " + what + " of a narrow board", narrow.count(what), 0);
        }
        narrow.begin(40);
        for (int what = 0; what < 4; what++) {
            Edges.sidesAre("beside the narrow board, side " + what, narrow, what, new int[40]);
        }
    }

    private static void beginAim() {
        Board board = worn();
        board.show(0, 0);
        board.begin(40);
        Edges.aims("dark", board, new int[40]);
        Check.due("no due dot", board.count(Boards.DUE), 0);
        Check.due("none that shows another side", board.count(Boards.OTHER), 0);
    }

    private static void beginCounts() {
        Board board = worn();
        for (int what = Boards.STUCK; what <= Boards.SECONDS; what++) {
            Check.that("count " + what + " is above 0", board.count(what) > 0);
        }
        board.begin(40);
        for (int what = Boards.DUE; what <= Boards.SECONDS; what++) {
            Check.due("count " + what, board.count(what), 0);
        }
        Check.due("no second", board.power(1), Edges.NONE);
        board.pass(1);
        Check.due("one second", board.power(1), 0);
        Check.due("and no second one", board.power(2), Edges.NONE);
    }

    private static void beginKeeps() {
        Board board = Boards.withText(8, "a=7f09; z=0102030405; >a_z; >_;");
        board.setNumber(0, 50);
        board.setNumber(1, 2);
        board.setNumber(2, 200);
        Boards.type(board, "a=0");
        board.begin(9);
        Check.due("P", board.count(1), 50);
        Check.due("order", board.count(2), 2);
        Check.due("life", board.count(3), 200);
        Check.due("messages", board.count(Boards.MESSAGES), 2);
        Check.due("characters", board.message(0, 2), 25);
        Check.due("columns", board.letter(0, 1), 9);
        Check.due("strip", board.strip(0), 2 + 1 + 2 + 1 + 5);
        Check.due("text", board.count(Boards.TEXT), 3);
        Check.due("saved states", board.count(Boards.SAVED), 6);
        Board worn = worn();
        worn.begin(40);
        Board other = Boards.withText(40, "e=7f7f7f7f7f; >eeeeeeeeeeee; >e;");
        other.setNumber(0, 50);
        other.setNumber(2, 1);
        Check.same("all else is as on another new board", worn.look(), other.look());
    }

    private static void beginColumns() {
        Edges.range(Edges.busy(), 6, 8, 40, 8, Board::begin);
        for (int columns = 6; columns <= 40; columns++) {
            Board board = new Board();
            board.begin(columns);
            Check.due("W", board.count(Boards.WIDTH), columns);
            Check.due("the last column", board.column(columns - 1, 0), 0);
            Check.due("one more", board.column(columns, 0), Edges.INVALID);
        }
    }

    private static void beginReturns() {
        Board board = new Board();
        int[] columns = {6, 40, 40, 6, 20};
        int previous = 20;
        for (int width : columns) {
            Check.due("previous", board.begin(width), previous);
            previous = width;
        }
    }

    private static void beginRefused() {
        Edges.refused(Edges.busy(), Edges.INVALID, "begin(5)", b -> b.begin(5));
        Edges.refused(Edges.busy(), Edges.INVALID, "begin(41)", b -> b.begin(41));
        Edges.refused(new Board(), Edges.INVALID, "begin(0)", b -> b.begin(0));
        Edges.refused(new Board(), Edges.INVALID, "begin(-6)", b -> b.begin(-6));
    }

    private static void setNumberSets() {
        Board board = new Board();
        int[][] calls = {{0, 2}, {1, 2}, {2, 1}, {0, 50}, {2, 200}, {1, 0}, {1, 1}};
        int[] numbers = {10, 0, 100};
        for (int[] call : calls) {
            board.setNumber(call[0], call[1]);
            numbers[call[0]] = call[1];
            for (int what = 0; what < 3; what++) {
                Check.due("number " + what, board.count(1 + what), numbers[what]);
            }
        }
    }

    private static void stuckDotsStay() {
        Board board = Boards.withText(6, "a=03; >a;");
        board.setNumber(2, 1);
        Edges.flipTimes(board, 0, 0, 1);
        board.jam(0, 0);
        board.setNumber(2, 200);
        Check.due("those whose life ended", board.column(2, 2), 3);
        Check.due("those that were jammed", board.column(0, 2), 1);
        board.darken();
        Check.due("they do not flip", board.pass(1), 0);
        Check.due("still bright", board.column(2, 0), 3);
        board.setNumber(2, 1);
        Check.due("known ones, too", board.column(2, 2), 3);
        Check.due("stay known", board.column(2, 3), 3);
    }

    private static void sticksWithTheNext() {
        Board as = Boards.withText(6, "a=01; >a;");
        Edges.flipTimes(as, 0, 0, 3);
        as.setNumber(2, 3);
        Check.due("as many flips: not stuck by that", as.count(Boards.STUCK), 0);
        as.pass(5);
        Check.due("nor by seconds", as.count(Boards.STUCK), 0);
        Edges.flipTimes(as, 0, 3, 4);
        Check.due("the next flip is made", as.flips(2, 0), 4);
        Check.due("and it sticks", as.column(2, 2), 1);
        Board less = Boards.withText(6, "a=01; >a;");
        Edges.flipTimes(less, 0, 0, 2);
        less.setNumber(2, 4);
        Edges.flipTimes(less, 0, 2, 3);
        Check.due("one flip less than a life", less.count(Boards.STUCK), 0);
        Edges.flipTimes(less, 0, 3, 4);
        Check.due("as many as a life", less.count(Boards.STUCK), 1);
    }

    private static void setNumberWhat() {
        Edges.range(Edges.busy(), 0, 5, 2, 100, (board, what) -> board.setNumber(what, 2));
        Board board = new Board();
        board.setNumber(0, 2);
        Check.due("0 is P", board.count(1), 2);
        board.setNumber(1, 2);
        Check.due("1 is the order", board.count(2), 2);
        board.setNumber(2, 2);
        Check.due("2 is the life", board.count(3), 2);
    }

    private static void setNumberValue() {
        Edges.range(Edges.busy(), 2, 5, 50, 5, (board, value) -> board.setNumber(0, value));
        Edges.range(Edges.busy(), 0, 0, 2, 0, (board, value) -> board.setNumber(1, value));
        Edges.range(Edges.busy(), 1, 100, 200, 100, (board, value) -> board.setNumber(2, value));
    }

    private static void setNumberReturns() {
        int[][] values = {{2, 50, 50, 10}, {2, 1, 1, 0}, {1, 200, 200, 100}};
        int[] previous = {10, 0, 100};
        Board board = new Board();
        for (int what = 0; what < 3; what++) {
            for (int value : values[what]) {
                Check.due("previous " + what, board.setNumber(what, value), previous[what]);
                previous[what] = value;
            }
        }
    }

    private static void setNumberRefused() {
        Board board = Edges.busy();
        Edges.refused(board, Edges.INVALID, "setNumber(3, 5)", b -> b.setNumber(3, 5));
        Edges.refused(board, Edges.INVALID, "setNumber(-1, 5)", b -> b.setNumber(-1, 5));
        Edges.refused(board, Edges.INVALID, "setNumber(1, 50)", b -> b.setNumber(1, 50));
        Edges.refused(board, Edges.INVALID, "setNumber(0, 200)", b -> b.setNumber(0, 200));
        Edges.refused(board, Edges.INVALID, "setNumber(0, 0)", b -> b.setNumber(0, 0));
        Edges.refused(board, Edges.INVALID, "setNumber(2, 0)", b -> b.setNumber(2, 0));
        Edges.refused(board, Edges.INVALID, "setNumber(3, -1)", b -> b.setNumber(3, -1));
    }

    private static void columnsAre(Board board, int letter, int... columns) {
        for (int index = 0; index < columns.length; index++) {
            Check.due("column " + index, board.letter(letter, index), columns[index]);
        }
        Check.due("no column more", board.letter(letter, columns.length), Edges.NONE);
    }

    private static void setColumnSetsOrAdds() {
        Board board = new Board();
        board.setColumn(4, 0, 1);
        columnsAre(board, 4, 1);
        board.setColumn(4, 0, 2);
        columnsAre(board, 4, 2);
        board.setColumn(4, 1, 3);
        columnsAre(board, 4, 2, 3);
        board.setColumn(4, 2, 0);
        board.setColumn(4, 3, 5);
        board.setColumn(4, 4, 6);
        columnsAre(board, 4, 2, 3, 0, 5, 6);
        board.setColumn(4, 4, 7);
        board.setColumn(4, 0, 0);
        columnsAre(board, 4, 0, 3, 0, 5, 7);
        columnsAre(board, 3);
        columnsAre(board, 5);
        board.undo();
        columnsAre(board, 4, 2, 3, 0, 5, 7);
    }

    private static void setColumnLetter() {
        Edges.range(Edges.busy(), 0, 2, 25, 1, (board, letter) -> board.setColumn(letter, 0, 1));
    }

    private static void setColumnIndex() {
        Edges.range(Edges.busy(), 0, 1, 0, 1, (board, index) -> board.setColumn(25, index, 1));
        Edges.range(Edges.busy(), 0, 1, 1, 2, (board, index) -> board.setColumn(1, index, 1));
        Edges.range(Edges.busy(), 0, 2, 2, 3, (board, index) -> board.setColumn(0, index, 1));
        Board four = Boards.withText(6, "z=01020304;");
        Edges.range(four, 0, 4, 4, 5, (board, index) -> board.setColumn(25, index, 1));
        Board five = Boards.withText(6, "z=0102030405; a=0102030405;");
        Edges.range(five, 0, 5, 4, 5, (board, index) -> board.setColumn(25, index, 1));
        Edges.range(five, 0, 5, 4, 5, (board, index) -> board.setColumn(0, index, 1));
        Boards.load(five, "z=01;");
        Edges.range(five, 0, 1, 1, 2, (board, index) -> board.setColumn(25, index, 9));
        five.setColumn(25, 1, 9);
        columnsAre(five, 25, 1, 9);
    }

    private static void setColumnBits() {
        Edges.range(Edges.busy(), 0, 3, 127, 3, (board, bits) -> board.setColumn(0, 2, bits));
        Board board = new Board();
        board.setColumn(0, 0, 127);
        board.setColumn(0, 1, 0);
        columnsAre(board, 0, 127, 0);
    }

    private static void setColumnReturns() {
        Board board = new Board();
        for (int index = 0; index < 5; index++) {
            Check.due("one more", board.setColumn(0, index, 0), index + 1);
            Check.due("the same number", board.setColumn(0, 0, 1), index + 1);
            Check.due("the same number", board.setColumn(0, index, 1), index + 1);
        }
    }

    private static void setColumnRefused() {
        Board board = Edges.busy();
        Edges.refused(board, Edges.INVALID, "setColumn(26, 0, 0)", b -> b.setColumn(26, 0, 0));
        Edges.refused(board, Edges.INVALID, "setColumn(0, 3, 0)", b -> b.setColumn(0, 3, 0));
        Edges.refused(board, Edges.INVALID, "setColumn(0, 2, 128)", b -> b.setColumn(0, 2, 128));
        Edges.refused(board, Edges.INVALID, "setColumn(2, 1, 0)", b -> b.setColumn(2, 1, 0));
        Edges.refused(board, Edges.INVALID, "setColumn(-1, -1, -1)", b -> b.setColumn(-1, -1, -1));
    }
}
