/** Promises 5 to 9: addMessage, removeMessage, appendCharacter, clearText, load. */
final class MessagePromises {
    private MessagePromises() {
    }

    static void test() {
        Document.test("Promise 5", "Adds a message of one or two characters", MessagePromises::adds);
        Document.test("Promise 5", "`first`: 0 to 25, or 26 for a gap", MessagePromises::first);
        Document.test("Promise 5", "`second`: 0 to 26, or -1 for none", MessagePromises::second);
        Document.test("Promise 5", "Returns its number", MessagePromises::addReturns);
        Document.test("Promise 5", "INVALID_ARGUMENT if an argument is out of range", MessagePromises::addRefused);
        Document.test("Promise 5", "CAPACITY_EXCEEDED if there are 8 messages", MessagePromises::addWithEight);
        Document.test("Promise 6", "Removes a message", MessagePromises::removes);
        Document.test("Promise 6", "the aim stays", MessagePromises::aimStays);
        Document.test("Promise 6", "`message`: a message", MessagePromises::removeMessage);
        Document.test("Promise 6", "Returns the number of messages that are left", MessagePromises::removeReturns);
        Document.test("Promise 6", "INVALID_ARGUMENT if there is no such message", MessagePromises::removeRefused);
        Document.test("Promise 7", "Appends a character to the text", MessagePromises::appends);
        Document.test("Promise 7", "`character`: character code, 0 to 255", MessagePromises::character);
        Document.test("Promise 7", "Returns the new length of the text", MessagePromises::appendReturns);
        Document.test("Promise 7", "INVALID_ARGUMENT if character is out of range", MessagePromises::appendRefused);
        Document.test("Promise 7", "CAPACITY_EXCEEDED if the text has 120 characters",
            MessagePromises::appendWith120);
        Document.test("Promise 8", "Makes the text empty", MessagePromises::clears);
        Document.test("Promise 8", "Returns the previous length of the text", MessagePromises::clearReturns);
        Document.test("Promise 9", "Reads the text", MessagePromises::reads);
        Document.test("Promise 9", "The text becomes empty", MessagePromises::becomesEmpty);
        Document.test("Promise 9", "Returns the number of items", MessagePromises::loadReturns);
        Document.test("Promise 9", "-2000 minus the error position if the text has an error (then nothing changes,"
            + " and the text is kept)", MessagePromises::loadRefused);
    }

    private static void adds() {
        Board board = new Board();
        board.addMessage(0, -1);
        board.addMessage(26, 25);
        Check.due("one character", board.message(0, 0), 0);
        Check.due("no second", board.message(0, 1), Edges.NONE);
        Check.due("two characters, the first", board.message(1, 0), 26);
        Check.due("two characters, the second", board.message(1, 1), 25);
        Check.due("no third", board.message(1, 2), Edges.NONE);
        board.addMessage(3, 0);
        Check.due("0 is a character", board.message(2, 1), 0);
    }

    private static void first() {
        Edges.range(Edges.busy(), 0, 3, 26, 3, (board, first) -> board.addMessage(first, 0));
        Edges.range(Edges.busy(), 0, 3, 26, 3, (board, first) -> board.addMessage(first, -1));
        Board board = new Board();
        for (int first = 24; first <= 26; first++) {
            Check.due("number", board.addMessage(first, -1), first - 24);
            Check.due("character", board.message(first - 24, 0), first);
        }
    }

    private static void second() {
        Edges.range(Edges.busy(), -1, 3, 26, 3, (board, second) -> board.addMessage(0, second));
        Board board = new Board();
        int[] seconds = {-1, 0, 25, 26};
        for (int message = 0; message < seconds.length; message++) {
            board.addMessage(7, seconds[message]);
            int want = seconds[message] == -1 ? Edges.NONE : seconds[message];
            Check.due("second " + seconds[message], board.message(message, 1), want);
        }
    }

    private static void addReturns() {
        Board board = new Board();
        for (int number = 0; number < 8; number++) {
            Check.due("number", board.addMessage(number, -1), number);
        }
        board.removeMessage(0);
        Check.due("again the last number", board.addMessage(9, -1), 7);
        Check.due("under that number", board.message(7, 0), 9);
    }

    private static void addRefused() {
        Board board = new Board();
        Edges.refused(board, Edges.INVALID, "addMessage(27, -1)", b -> b.addMessage(27, -1));
        Edges.refused(board, Edges.INVALID, "addMessage(-1, 0)", b -> b.addMessage(-1, 0));
        Edges.refused(board, Edges.INVALID, "addMessage(-1, -1)", b -> b.addMessage(-1, -1));
        Edges.refused(board, Edges.INVALID, "addMessage(0, -2)", b -> b.addMessage(0, -2));
        Edges.refused(board, Edges.INVALID, "addMessage(0, 27)", b -> b.addMessage(0, 27));
        Check.due("the first one", board.addMessage(0, 0), 0);
    }

    private static Board eight() {
        return Boards.withText(6, ">abcdefghijkl;>b;>c;>d;>e;>f;>g;>h;");
    }

    private static void addWithEight() {
        Board seven = eight();
        seven.removeMessage(4);
        Check.due("seven", seven.addMessage(8, 9), 7);
        Edges.refused(seven, Edges.FULL, "eight again", b -> b.addMessage(0, 0));
        Board eight = eight();
        Edges.refused(eight, Edges.FULL, "eight", b -> b.addMessage(0, -1));
        Edges.refused(eight, Edges.INVALID, "eight and a wrong character", b -> b.addMessage(0, 27));
        eight.undo();
        Check.due("none", eight.addMessage(0, 0), 0);
    }

    private static void removes() {
        Board board = eight();
        board.removeMessage(0);
        Check.due("the next has its number", board.message(0, 0), 1);
        Check.due("and its length", board.message(0, 1), Edges.NONE);
        board.removeMessage(6);
        Check.due("the last has none", board.message(6, 0), Edges.INVALID);
        Check.due("the one ahead of it stays", board.message(5, 0), 6);
        board.removeMessage(3);
        int[] left = {1, 2, 3, 5, 6};
        for (int message = 0; message < left.length; message++) {
            Check.due("left", board.message(message, 0), left[message]);
        }
        Check.due("five", board.count(Boards.MESSAGES), 5);
        Board lengths = Boards.withText(6, ">abcdefghijkl;>m;>no;>pqr;>s;>t;>uv;>wxyz;");
        lengths.removeMessage(1);
        messagesAre(lengths, "abcdefghijkl", "no", "pqr", "s", "t", "uv", "wxyz");
        lengths.removeMessage(0);
        messagesAre(lengths, "no", "pqr", "s", "t", "uv", "wxyz");
        lengths.removeMessage(5);
        messagesAre(lengths, "no", "pqr", "s", "t", "uv");
    }

    private static void messagesAre(Board made, String... messages) {
        Board board = made.again();
        Check.due("messages", board.count(Boards.MESSAGES), messages.length);
        for (int message = 0; message < messages.length; message++) {
            int length = messages[message].length();
            for (int index = 0; index < length; index++) {
                int want = messages[message].charAt(index) - 'a';
                Check.due("character of " + messages[message], board.message(message, index), want);
            }
            Check.due("end of " + messages[message], board.message(message, length), Edges.NONE);
        }
    }

    private static void aimStays() {
        Board board = Boards.withText(6, "a=7f; b=01; >a; >b;");
        board.show(0, 0);
        board.removeMessage(0);
        Edges.aims("of the one that is removed", board, 0, 0, 127, 0, 0, 0);
        board.removeMessage(0);
        Edges.aims("without messages", board, 0, 0, 127, 0, 0, 0);
        Check.due("the dots stay due", board.count(Boards.DUE), 7);
    }

    private static void removeMessage() {
        Edges.range(Edges.busy(), 0, 2, 2, 2, Board::removeMessage);
        Edges.range(eight(), 0, 7, 7, 7, Board::removeMessage);
    }

    private static void removeReturns() {
        Board board = eight();
        for (int left = 7; left >= 0; left--) {
            Check.due("left", board.removeMessage(left / 2), left);
        }
    }

    private static void removeRefused() {
        Edges.refused(new Board(), Edges.INVALID, "no message at all", b -> b.removeMessage(0));
        Board board = Boards.withText(6, ">a;");
        Edges.refused(board, Edges.INVALID, "removeMessage(1)", b -> b.removeMessage(1));
        Edges.refused(board, Edges.INVALID, "removeMessage(-1)", b -> b.removeMessage(-1));
        board.removeMessage(0);
        Edges.refused(board, Edges.INVALID, "no message any more", b -> b.removeMessage(0));
    }

    private static void appends() {
        Board board = new Board();
        Boards.type(board, "a=7");
        Check.due("not complete", board.load(), -2003);
        board.appendCharacter('f');
        Check.due("nor now", board.load(), -2004);
        board.appendCharacter(';');
        Check.due("now", board.load(), 1);
        Check.due("in this order", board.letter(0, 0), 127);
    }

    private static void character() {
        Edges.range(Edges.busy(), 0, 4, 255, 4, Board::appendCharacter);
        Board board = new Board();
        Check.due("a small letter", board.appendCharacter(97 + 256), Edges.INVALID);
        Check.due("nothing is appended", board.load(), 0);
        board.appendCharacter(0);
        Check.due("code 0 is appended", board.load(), -2000);
    }

    private static void appendReturns() {
        Board board = new Board();
        for (int length = 1; length <= 120; length++) {
            Check.due("length", board.appendCharacter(length), length);
        }
    }

    private static void appendRefused() {
        Board board = new Board();
        Edges.refused(board, Edges.INVALID, "appendCharacter(256)", b -> b.appendCharacter(256));
        Edges.refused(board, Edges.INVALID, "appendCharacter(-1)", b -> b.appendCharacter(-1));
        Check.due("the text is empty", board.count(Boards.TEXT), 0);
    }

    private static void appendWith120() {
        Board board = new Board();
        Boards.type(board, " ".repeat(118));
        Check.due("the 119th", board.appendCharacter(' '), 119);
        Check.due("the 120th", board.appendCharacter(' '), 120);
        Edges.refused(board, Edges.FULL, "the 121st", b -> b.appendCharacter(' '));
        Edges.refused(board, Edges.INVALID, "the 121st, out of range", b -> b.appendCharacter(256));
        Check.due("still spaces alone", board.load(), 0);
    }

    private static void clears() {
        Board board = new Board();
        Boards.type(board, ";" + "a".repeat(119));
        board.clearText();
        Check.due("no character", board.count(Boards.TEXT), 0);
        Check.due("no error any more", board.load(), 0);
        Boards.type(board, "a=01;");
        board.clearText();
        board.clearText();
        Boards.type(board, ">b;");
        Check.due("what comes then stands alone", board.load(), 1);
        Check.due("not what stood there", board.letter(0, 0), Edges.NONE);
    }

    private static void clearReturns() {
        Board board = new Board();
        Check.due("empty", board.clearText(), 0);
        board.appendCharacter(0);
        Check.due("one", board.clearText(), 1);
        Check.due("empty again", board.clearText(), 0);
        Boards.type(board, "?".repeat(120));
        Check.due("full", board.clearText(), 120);
        Check.due("saves nothing", board.count(Boards.SAVED), 0);
    }

    private static void reads() {
        Board board = Boards.withText(9, "a=01; >a; >b;");
        Check.due("a letter anew, a letter more, a message", Boards.load(board, "a=0203;b=7f;>ab;"), 3);
        Check.due("a", board.letter(0, 1), 3);
        Check.due("b", board.letter(1, 0), 127);
        Check.due("the message", board.message(2, 1), 1);
        Check.due("its strip", board.strip(2), 4);
        Check.due("the others stay", board.message(1, 0), 1);
    }

    private static void becomesEmpty() {
        Board board = new Board();
        Boards.type(board, "a=01;");
        board.load();
        Check.due("no character", board.count(Boards.TEXT), 0);
        Check.due("nothing to read twice", board.load(), 0);
        Boards.type(board, " ".repeat(120));
        board.load();
        Check.due("of spaces", board.count(Boards.TEXT), 0);
        Check.due("room again", board.appendCharacter(1), 1);
    }

    private static void loadReturns() {
        Board board = new Board();
        Check.due("none", board.load(), 0);
        Check.due("spaces", Boards.load(board, "  "), 0);
        Check.due("one", Boards.load(board, ">a;"), 1);
        Check.due("the same letter three times", Boards.load(board, "a=01;a=01;a=01;"), 3);
        String most = ">a;".repeat(8) + "a=01;".repeat(19);
        Check.due("the most there can be", Boards.load(new Board(), most), 27);
    }

    private static void loadRefused() {
        Board board = Edges.busy();
        Edges.refused(board, -2003, "an end is missing", Board::load);
        board.appendCharacter('g');
        Edges.refused(board, -2003, "no digit", Board::load);
        board.clearText();
        Boards.type(board, "a=01;>z;>");
        Edges.refused(board, -2009, "behind two items", Board::load);
        Check.due("the text is kept", board.count(Boards.TEXT), 9);
        Boards.type(board, "a;");
        Check.due("and goes on", board.load(), 3);
        Board first = new Board();
        first.appendCharacter(';');
        Edges.refused(first, -2000, "the first character", Board::load);
        Board last = new Board();
        Boards.type(last, " ".repeat(119) + "!");
        Edges.refused(last, -2119, "the last character", Board::load);
        Board behind = new Board();
        Boards.type(behind, " ".repeat(119) + ">");
        Edges.refused(behind, -2120, "behind the last character", Board::load);
    }
}
