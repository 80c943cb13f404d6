/** Promises 15 to 22: count, column, flips, letter, message, strip, picture, power. */
final class LookingPromises {
    private LookingPromises() {
    }

    static void test() {
        Document.test("Promise 15", "Returns a number", LookingPromises::countReturns);
        Document.test("Promise 15", "`what`: 0 W, 1 to 3 the numbers of setNumber(), 4 the number of messages",
            LookingPromises::countSettings);
        Document.test("Promise 15",
            "5 of due dots, 6 of stuck dots, 7 of dots that are known to be stuck, 8 of dots"
            + " that show another side than the aim tells", LookingPromises::countDots);
        Document.test("Promise 15", "9 of all flips (mended dots included)", LookingPromises::countFlips);
        Document.test("Promise 15", "10 how often a dot was tried and found stuck (all since begin())",
            LookingPromises::countTries);
        Document.test("Promise 15", "11 the power used in all, 12 the number of seconds that passed",
            LookingPromises::countSeconds);
        Document.test("Promise 15", "13 the length of the text, 14 the number of states that are saved for undo()",
            LookingPromises::countTextAndStates);
        Document.test("Promise 15", "INVALID_ARGUMENT if what is out of range", LookingPromises::countRefused);
        Document.test("Promise 15", "Returns the number", LookingPromises::countReturns);
        Document.test("Promise 16", "Returns a column of the board", LookingPromises::columnReturns);
        Document.test("Promise 16", "`column`: 0 to W - 1", LookingPromises::columnColumn);
        Document.test("Promise 16",
            "`what`: 0 what is shown, 1 the aim, 2 the stuck dots, 3 those that are known to"
            + " be stuck", LookingPromises::columnWhat);
        Document.test("Promise 16", "Returns its bits", LookingPromises::columnReturns);
        Document.test("Promise 16", "INVALID_ARGUMENT if an argument is out of range",
            LookingPromises::columnRefused);
        Document.test("Promise 17", "Returns the number of flips that a dot has made",
            LookingPromises::flipsReturns);
        Document.test("Promise 17", "`column`: 0 to W - 1", LookingPromises::flipsColumn);
        Document.test("Promise 17", "`row`: 0 to 6", LookingPromises::flipsRow);
        Document.test("Promise 17", "Returns the number;", LookingPromises::flipsReturns);
        Document.test("Promise 17", "INVALID_ARGUMENT if an argument is out of range",
            LookingPromises::flipsRefused);
        Document.test("Promise 18", "Returns a column of a letter", LookingPromises::letterReturns);
        Document.test("Promise 18", "`letter`: 0 to 25", LookingPromises::letterLetter);
        Document.test("Promise 18", "`index`: 0 for the first one", LookingPromises::letterIndex);
        Document.test("Promise 18", "Returns its bits", LookingPromises::letterReturns);
        Document.test("Promise 18", "INVALID_ARGUMENT if letter is out of range or index is negative",
            LookingPromises::letterRefused);
        Document.test("Promise 18", "NONE if the letter has not so many columns", LookingPromises::letterNone);
        Document.test("Promise 19", "Returns a character of a message", LookingPromises::messageReturns);
        Document.test("Promise 19", "`message`: a message", LookingPromises::messageMessage);
        Document.test("Promise 19", "`index`: 0 for the first one", LookingPromises::messageIndex);
        Document.test("Promise 19", "Returns 0 to 25 for a letter, 26 for a gap", LookingPromises::messageReturns);
        Document.test("Promise 19", "INVALID_ARGUMENT if there is no such message or index is negative",
            LookingPromises::messageRefused);
        Document.test("Promise 19", "NONE if it has not so many characters", LookingPromises::messageNone);
        Document.test("Promise 20", "Returns the number of columns of the strip of a message",
            LookingPromises::stripReturns);
        Document.test("Promise 20", "`message`: a message", LookingPromises::stripMessage);
        Document.test("Promise 20", "Returns the number;", LookingPromises::stripReturns);
        Document.test("Promise 20", "INVALID_ARGUMENT if there is no such message", LookingPromises::stripRefused);
        Document.test("Promise 21", "Returns a column of the picture of a message",
            LookingPromises::pictureReturns);
        Document.test("Promise 21", "`message`: a message", LookingPromises::pictureMessage);
        Document.test("Promise 21", "`shift`: -2 to 2", LookingPromises::pictureShift);
        Document.test("Promise 21", "`column`: 0 to W - 1", LookingPromises::pictureColumn);
        Document.test("Promise 21", "Returns its bits", LookingPromises::pictureReturns);
        Document.test("Promise 21", "INVALID_ARGUMENT if an argument is out of range",
            LookingPromises::pictureRefused);
        Document.test("Promise 22", "Returns the power that was used in a second", LookingPromises::powerReturns);
        Document.test("Promise 22", "`ago`: 1 for the last second, up to 20", LookingPromises::powerAgo);
        Document.test("Promise 22", "up to 20", LookingPromises::powerOfSixtySeconds);
        Document.test("Promise 22", "Returns the power;", LookingPromises::powerReturns);
        Document.test("Promise 22", "INVALID_ARGUMENT if ago is out of range", LookingPromises::powerRefused);
        Document.test("Promise 22", "NONE if not so many seconds have passed", LookingPromises::powerNone);
    }

    private static void countReturns() {
        Board board = Edges.busy();
        int[] counts = {8, 5, 0, 100, 3, 5, 2, 1, 6, 3, 1, 5, 1, 3, 6};
        for (int what = 0; what < counts.length; what++) {
            Check.due("count " + what, board.count(what), counts[what]);
        }
    }

    private static void countSettings() {
        int[] widths = {6, 40};
        for (int width : widths) {
            Board board = new Board();
            board.begin(width);
            Check.due("W", board.count(0), width);
        }
        int[][] numbers = {{2, 0, 1}, {50, 2, 200}};
        for (int[] values : numbers) {
            Board board = new Board();
            for (int what = 0; what < 3; what++) {
                board.setNumber(what, values[what]);
                Check.due("number " + what, board.count(1 + what), values[what]);
            }
        }
        Board board = new Board();
        for (int messages = 0; messages <= 8; messages++) {
            Check.due("messages", board.count(4), messages);
            board.addMessage(0, -1);
        }
        Check.due("no ninth", board.count(4), 8);
    }

    private static void countDots() {
        Board board = Boards.withText(40, "e=7f7f7f7f7f; >eeeeeeeeeeee;");
        dotsAre(board, 0, 0, 0, 0);
        board.setNumber(0, 50);
        board.setNumber(2, 1);
        board.jam(0, 0);
        board.jam(39, 6);
        board.jam(5, 3);
        dotsAre(board, 0, 3, 0, 0);
        board.show(0, 0);
        dotsAre(board, 238, 3, 0, 238);
        board.pass(9);
        dotsAre(board, 0, 239, 2, 2);
        board.darken();
        dotsAre(board, 236, 239, 2, 236);
        board.pass(9);
        dotsAre(board, 0, 239, 238, 236);
        board.mend(0, 0);
        board.mend(39, 0);
        dotsAre(board, 1, 237, 236, 236);
        board.mend(5, 3);
        dotsAre(board, 1, 236, 236, 236);
    }

    private static void dotsAre(Board board, int due, int stuck, int known, int other) {
        Check.due("due", board.count(5), due);
        Check.due("stuck", board.count(6), stuck);
        Check.due("known", board.count(7), known);
        Check.due("another side", board.count(8), other);
    }

    private static void countFlips() {
        Board board = Boards.withText(6, "a=03; >a;");
        Check.due("none", board.count(9), 0);
        Edges.flipTimes(board, 0, 0, 3);
        Check.due("three times two", board.count(9), 6);
        board.mend(2, 0);
        Check.due("mended dots included", board.count(9), 6);
        board.jam(2, 0);
        Edges.flipTimes(board, 0, 3, 4);
        Check.due("without a stuck one", board.count(9), 7);
        board.begin(6);
        Check.due("since begin()", board.count(9), 0);
        board.undo();
        Check.due("undone", board.count(9), 7);
    }

    private static void countTries() {
        Board board = Boards.withText(6, "a=7f; >a;");
        board.jam(2, 0);
        board.jam(2, 1);
        Check.due("not by jam()", board.count(10), 0);
        board.show(0, 0);
        Check.due("nor by show()", board.count(10), 0);
        board.pass(1);
        Check.due("two", board.count(10), 2);
        board.pass(20);
        Check.due("known ones are not tried", board.count(10), 2);
        board.mend(2, 0);
        Check.due("mended", board.count(10), 2);
        board.jam(2, 0);
        board.pass(1);
        Check.due("the same dot again", board.count(10), 3);
        board.begin(6);
        Check.due("since begin()", board.count(10), 0);
    }

    private static void countSeconds() {
        Board board = Boards.withText(6, "a=7f; >a;");
        board.pass(200);
        Check.due("no power", board.count(11), 0);
        Check.due("200 seconds", board.count(12), 200);
        board.show(0, 0);
        board.pass(1);
        Check.due("power", board.count(11), 8);
        Check.due("201 seconds", board.count(12), 201);
        board.jam(2, 0);
        board.darken();
        board.pass(200);
        Check.due("a stuck dot's unit counts", board.count(11), 16);
        Check.due("401 seconds", board.count(12), 401);
        board.secondsFor(0, 0);
        Check.due("seconds that are told do not count", board.count(12), 401);
        board.undo();
        Check.due("power, undone", board.count(11), 8);
        Check.due("seconds, undone", board.count(12), 201);
        board.begin(6);
        Check.due("no power again", board.count(11), 0);
        Check.due("no second", board.count(12), 0);
    }

    private static void countTextAndStates() {
        Board board = new Board();
        Check.due("no text", board.count(13), 0);
        Check.due("no state", board.count(14), 0);
        Boards.type(board, " ".repeat(120));
        Check.due("the longest text", board.count(13), 120);
        board.appendCharacter(' ');
        Check.due("no longer", board.count(13), 120);
        for (int states = 1; states <= 6; states++) {
            board.darken();
            Check.due("states", board.count(14), states);
        }
        board.load();
        Check.due("read", board.count(13), 0);
        Check.due("no seventh state", board.count(14), 6);
        board.undo();
        Check.due("five", board.count(14), 5);
        board.clearText();
        Check.due("still five", board.count(14), 5);
    }

    private static void countRefused() {
        Edges.range(Edges.busy(), 0, 8, 14, 6, Board::count);
        Edges.range(new Board(), 0, 20, 14, 0, Board::count);
    }

    private static void columnReturns() {
        Board board = Edges.busy();
        Edges.sidesAre("shown", board, 0, 0, 0, 0, 0x0e, 0, 0, 0, 0);
        Edges.sidesAre("aim", board, 1, 0, 0, 0, 0x7f, 0x09, 0, 0, 0);
        Edges.sidesAre("stuck", board, 2, 0, 0, 0, 1, 0, 0, 0, 64);
        Edges.sidesAre("known", board, 3, 0, 0, 0, 1, 0, 0, 0, 0);
        Board full = Boards.withText(6, "a=7f; >a;");
        full.setNumber(2, 1);
        full.show(0, 0);
        full.pass(1);
        for (int what = 0; what < 3; what++) {
            Check.due("all dots", full.column(2, what), 127);
        }
        full.darken();
        full.pass(1);
        Check.due("all known", full.column(2, 3), 127);
    }

    private static void columnColumn() {
        for (int what = 0; what < 4; what++) {
            int side = what;
            Edges.range(Edges.busy(), 0, 0, 7, what == 2 ? 64 : 0, (board, column) -> board.column(column, side));
        }
        Board least = new Board();
        least.begin(6);
        Edges.range(least, 0, 0, 5, 0, (board, column) -> board.column(column, 0));
        Board most = new Board();
        most.begin(40);
        Edges.range(most, 0, 0, 39, 0, (board, column) -> board.column(column, 1));
    }

    private static void columnWhat() {
        Edges.range(Edges.busy(), 0, 0x0e, 3, 1, (board, what) -> board.column(3, what));
    }

    private static void columnRefused() {
        Board board = Edges.busy();
        Check.due("column(8, 0)", board.column(8, 0), Edges.INVALID);
        Check.due("column(-1, 3)", board.column(-1, 3), Edges.INVALID);
        Check.due("column(0, 4)", board.column(0, 4), Edges.INVALID);
        Check.due("column(7, -1)", board.column(7, -1), Edges.INVALID);
        Check.due("column(8, 4)", board.column(8, 4), Edges.INVALID);
        board.begin(40);
        Check.due("column(8, 0) of 40", board.column(8, 0), 0);
        board.begin(6);
        Check.due("column(6, 0) of 6", board.column(6, 0), Edges.INVALID);
    }

    private static void flipsReturns() {
        Board board = Boards.withText(6, "a=41; >a;");
        for (int flips = 0; flips <= 5; flips++) {
            Check.due("at the top", board.flips(2, 0), flips);
            Check.due("at the bottom", board.flips(2, 6), flips);
            Check.due("between", board.flips(2, 3), 0);
            Edges.flipTimes(board, 0, flips, flips + 1);
        }
        board.jam(2, 0);
        Edges.flipTimes(board, 0, 6, 7);
        Check.due("a stuck one", board.flips(2, 0), 6);
        Check.due("the other one", board.flips(2, 6), 7);
        board.mend(2, 0);
        Check.due("a mended one", board.flips(2, 0), 0);
    }

    private static void flipsColumn() {
        Edges.range(Edges.busy(), 0, 0, 7, 0, (board, column) -> board.flips(column, 1));
        Board board = Boards.withText(40, "e=01000000; f=01000001; >eeeeeeef;");
        Check.due("as wide as the board", board.strip(0), 7 * 5 + 4);
        board.setColumn(4, 4, 1);
        board.removeMessage(0);
        Boards.load(board, ">eeeeeef;");
        board.setNumber(0, 50);
        board.show(0, 0);
        board.pass(1);
        Edges.range(board, 0, 1, 39, 1, (b, column) -> b.flips(column, 0));
    }

    private static void flipsRow() {
        Edges.range(Edges.busy(), 0, 0, 6, 0, (board, row) -> board.flips(3, row));
        Board board = Boards.withText(6, "a=7f; >a;");
        board.show(0, 0);
        board.pass(1);
        Edges.range(board, 0, 1, 6, 1, (b, row) -> b.flips(2, row));
    }

    private static void flipsRefused() {
        Board board = Edges.busy();
        Check.due("flips(8, 0)", board.flips(8, 0), Edges.INVALID);
        Check.due("flips(-1, 6)", board.flips(-1, 6), Edges.INVALID);
        Check.due("flips(3, 7)", board.flips(3, 7), Edges.INVALID);
        Check.due("flips(4, -6)", board.flips(4, -6), Edges.INVALID);
        Check.due("flips(8, 7)", board.flips(8, 7), Edges.INVALID);
    }

    private static void letterReturns() {
        Board board = Boards.withText(6, "a=007f; z=0102030405;");
        Check.due("a dark column", board.letter(0, 0), 0);
        Check.due("a bright column", board.letter(0, 1), 127);
        for (int index = 0; index < 5; index++) {
            Check.due("z", board.letter(25, index), index + 1);
        }
        board.setColumn(25, 2, 99);
        Check.due("set", board.letter(25, 2), 99);
    }

    private static void letterLetter() {
        Edges.range(Edges.busy(), 0, 127, 25, Edges.NONE, (board, letter) -> board.letter(letter, 0));
        Edges.range(Edges.busy(), 0, Edges.NONE, 25, Edges.NONE, (board, letter) -> board.letter(letter, 5));
    }

    private static void letterIndex() {
        Board board = Boards.withText(6, "a=0102030405;");
        Check.due("the first one", board.letter(0, 0), 1);
        Check.due("the last one", board.letter(0, 4), 5);
        Check.due("behind it", board.letter(0, 5), Edges.NONE);
        Check.due("far behind it", board.letter(0, Integer.MAX_VALUE), Edges.NONE);
    }

    private static void letterRefused() {
        Board board = Edges.busy();
        Edges.refused(board, Edges.INVALID, "letter(26, 0)", b -> b.letter(26, 0));
        Edges.refused(board, Edges.INVALID, "letter(-1, 0)", b -> b.letter(-1, 0));
        Edges.refused(board, Edges.INVALID, "letter(0, -1)", b -> b.letter(0, -1));
        Edges.refused(board, Edges.INVALID, "letter(1, least)", b -> b.letter(1, Integer.MIN_VALUE));
        Edges.refused(board, Edges.INVALID, "letter(26, 9)", b -> b.letter(26, 9));
    }

    private static void letterNone() {
        Board board = new Board();
        for (int columns = 0; columns < 5; columns++) {
            Check.due("not one more", board.letter(7, columns), Edges.NONE);
            board.setColumn(7, columns, 3);
            Check.due("then it is there", board.letter(7, columns), 3);
        }
        Check.due("never a sixth", board.letter(7, 5), Edges.NONE);
        Boards.load(board, "h=01;");
        Check.due("fewer than before", board.letter(7, 1), Edges.NONE);
    }

    private static void messageReturns() {
        Board board = Boards.withText(6, ">az_;");
        Check.due("a", board.message(0, 0), 0);
        Check.due("z", board.message(0, 1), 25);
        Check.due("a gap", board.message(0, 2), 26);
        board.addMessage(26, 0);
        Check.due("a gap by a call", board.message(1, 0), 26);
    }

    private static void messageMessage() {
        Edges.range(Edges.busy(), 0, 0, 2, 26, (board, message) -> board.message(message, 0));
        Board eight = Boards.withText(6, ">a;>b;>c;>d;>e;>f;>g;>h;");
        Edges.range(eight, 0, 0, 7, 7, (board, message) -> board.message(message, 0));
        Edges.refusedBeside(new Board(), 1, -1, (board, message) -> board.message(message, 0));
    }

    private static void messageIndex() {
        Board board = Boards.withText(6, ">abcdefghijkl; >m;");
        Check.due("the first one", board.message(0, 0), 0);
        Check.due("the twelfth", board.message(0, 11), 11);
        Check.due("behind it", board.message(0, 12), Edges.NONE);
        Check.due("the next message begins anew", board.message(1, 0), 12);
    }

    private static void messageRefused() {
        Board board = Edges.busy();
        Edges.refused(board, Edges.INVALID, "message(3, 0)", b -> b.message(3, 0));
        Edges.refused(board, Edges.INVALID, "message(-1, 0)", b -> b.message(-1, 0));
        Edges.refused(board, Edges.INVALID, "message(1, -1)", b -> b.message(1, -1));
        Edges.refused(board, Edges.INVALID, "message(0, least)", b -> b.message(0, Integer.MIN_VALUE));
        Edges.refused(board, Edges.INVALID, "message(3, 9)", b -> b.message(3, 9));
        Edges.refused(new Board(), Edges.INVALID, "message(0, 0)", b -> b.message(0, 0));
    }

    private static void messageNone() {
        Board board = Boards.withText(6, ">a; >ab; >abcdefghijkl;");
        Check.due("of one", board.message(0, 1), Edges.NONE);
        Check.due("of two", board.message(1, 2), Edges.NONE);
        Check.due("of twelve", board.message(2, 12), Edges.NONE);
        Check.due("far behind", board.message(2, Integer.MAX_VALUE), Edges.NONE);
        board.removeMessage(2);
        board.addMessage(0, -1);
        Check.due("not what stood there", board.message(2, 1), Edges.NONE);
    }

    private static void stripReturns() {
        Board board = Boards.withText(6, "e=0102030405; >q; >e; >_; >eeeeeeeeeeee;");
        int[] columns = {0, 5, 2, 71};
        for (int message = 0; message < columns.length; message++) {
            Check.due("strip", board.strip(message), columns[message]);
        }
        board.setColumn(16, 0, 0);
        Check.due("with the letters of now", board.strip(0), 1);
    }

    private static void stripMessage() {
        Edges.range(Edges.busy(), 0, 2, 2, 4, Board::strip);
        Board eight = Boards.withText(6, "h=01; >a;>b;>c;>d;>e;>f;>g;>hh;");
        Edges.range(eight, 0, 0, 7, 3, Board::strip);
    }

    private static void stripRefused() {
        Edges.refused(new Board(), Edges.INVALID, "strip(0)", b -> b.strip(0));
        Edges.refused(Edges.busy(), Edges.INVALID, "strip(3)", b -> b.strip(3));
        Edges.refused(Edges.busy(), Edges.INVALID, "strip(-1)", b -> b.strip(-1));
    }

    private static void pictureReturns() {
        Board board = Edges.busy();
        int[][] pictures = {
            {0, 0, 0, 0x7f, 0x09, 0, 0, 0}, {0, 0, 0x7f, 0x09, 0, 0x41, 0, 0}, {0, 0, 0, 0, 0, 0x41, 0, 0},
        };
        for (int message = 0; message < pictures.length; message++) {
            for (int column = 0; column < 8; column++) {
                Check.due("column", board.picture(message, 0, column), pictures[message][column]);
            }
        }
    }

    private static void pictureMessage() {
        Edges.range(Edges.busy(), 0, 127, 2, 0, (board, message) -> board.picture(message, 0, 3));
    }

    private static void pictureShift() {
        Edges.range(Edges.busy(), -2, 127, 2, 0, (board, shift) -> board.picture(0, shift, 1));
        Edges.range(Edges.busy(), -2, 0, 2, 127, (board, shift) -> board.picture(0, shift, 5));
        Edges.range(Edges.busy(), -2, 0, 2, 9, (board, shift) -> board.picture(0, shift, 6));
    }

    private static void pictureColumn() {
        Board board = Boards.withText(6, "e=0102030405; f=06; >ef; >eeeeeeeeeeee;");
        Edges.range(board, 0, 1, 5, 0, (b, column) -> b.picture(0, 0, column));
        Edges.range(board, 0, 2, 5, 6, (b, column) -> b.picture(0, -1, column));
        board.begin(40);
        Edges.range(board, 0, 1, 39, 4, (b, column) -> b.picture(1, 0, column));
    }

    private static void pictureRefused() {
        Board board = Edges.busy();
        Edges.refused(board, Edges.INVALID, "picture(3, 0, 0)", b -> b.picture(3, 0, 0));
        Edges.refused(board, Edges.INVALID, "picture(-1, 0, 0)", b -> b.picture(-1, 0, 0));
        Edges.refused(board, Edges.INVALID, "picture(0, 3, 0)", b -> b.picture(0, 3, 0));
        Edges.refused(board, Edges.INVALID, "picture(0, -3, 0)", b -> b.picture(0, -3, 0));
        Edges.refused(board, Edges.INVALID, "picture(0, 0, 8)", b -> b.picture(0, 0, 8));
        Edges.refused(board, Edges.INVALID, "picture(0, 0, -1)", b -> b.picture(0, 0, -1));
        Edges.refused(new Board(), Edges.INVALID, "no message", b -> b.picture(0, 0, 0));
    }

    private static void powerReturns() {
        Board board = Boards.withText(6, "a=7f; >a;");
        board.setNumber(0, 4);
        board.show(0, 0);
        board.pass(3);
        Check.due("the last second", board.power(1), 2);
        Check.due("the one ahead", board.power(2), 4);
        Check.due("the first", board.power(3), 4);
        board.pass(1);
        Check.due("a second without due dots", board.power(1), 0);
        Check.due("one farther back", board.power(2), 2);
        board.undo();
        Check.due("undone", board.power(1), 2);
        Check.due("the one ahead, undone", board.power(2), 4);
    }

    private static void powerAgo() {
        Board board = Boards.withText(6, "a=7f; >a;");
        board.show(0, 0);
        board.pass(1);
        board.darken();
        board.pass(19);
        Edges.range(board, 1, 0, 20, 8, Board::power);
        Check.due("19 ago", board.power(19), 8);
        Check.due("18 ago", board.power(18), 0);
    }

    /** Each second has a power of its own, which is told until 20 more have passed. */
    private static void powerOfSixtySeconds() {
        Board board = Boards.withText(40, "e=7f7f7f7f7f; >eeeeeeeeeeee;");
        board.show(0, 0);
        int[] used = new int[60];
        int all = 0;
        for (int second = 0; second < 60; second++) {
            board.setNumber(0, 2 + second % 7);
            board.pass(1);
            used[second] = board.count(Boards.POWER) - all;
            all += used[second];
            Board looking = board.again();
            for (int ago = 1; ago <= 20; ago++) {
                int want = ago <= second + 1 ? used[second + 1 - ago] : Edges.NONE;
                Check.due(ago + " ago", looking.power(ago), want);
            }
        }
        Check.due("the first second", used[0], 2);
        Check.due("the second one", used[1], 3);
    }

    private static void powerRefused() {
        Edges.range(new Board(), 1, Edges.NONE, 20, Edges.NONE, Board::power);
        Board board = new Board();
        board.pass(200);
        Edges.refused(board, Edges.INVALID, "power(0)", b -> b.power(0));
        Edges.refused(board, Edges.INVALID, "power(21)", b -> b.power(21));
        Edges.refused(board, Edges.INVALID, "power(-1)", b -> b.power(-1));
    }

    private static void powerNone() {
        Board board = new Board();
        for (int seconds = 0; seconds < 20; seconds++) {
            Check.due("one more than passed", board.power(seconds + 1), Edges.NONE);
            board.pass(1);
            Check.due("then it has passed", board.power(seconds + 1), 0);
        }
        board.begin(20);
        Check.due("none behind begin()", board.power(1), Edges.NONE);
        board.undo();
        Check.due("undone", board.power(20), 0);
    }
}
