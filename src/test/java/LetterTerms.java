/** The edges that "Letters and messages" names. */
final class LetterTerms {
    private static final String LETTERS = "Letters and messages";
    /** Strips of these letters have bits 1 to 5 in columns 0 to 4 of each six, and 0 in the fifth. */
    private static final String PATTERN = "a=01; b=0102; d=010203; f=01020304; e=0102030405; ";

    private LetterTerms() {
    }

    static void test() {
        Document.test(LETTERS, "Each letter a to z has up to 5 columns (at first none)", LetterTerms::fiveColumns);
        Document.test(LETTERS, "A message is a row of 1 to 12 characters, each of them a letter or a gap",
            LetterTerms::twelveCharacters);
        Document.test(LETTERS, "There are at most 8 messages, numbered from 0", LetterTerms::eightMessages);
        Document.test(LETTERS, "when one is removed, the numbers of those behind it decrease by 1",
            LetterTerms::removed);
        Document.test(LETTERS, "The strip of a message has, one after the other, the columns of its characters,"
            + " with one dark column between each two successive characters", LetterTerms::strips);
        Document.test(LETTERS, "a gap has two dark columns", LetterTerms::gaps);
        Document.test(LETTERS, "a letter without columns has none (the dark columns between characters stay)",
            LetterTerms::lettersWithoutColumns);
        Document.test(LETTERS, "the strip begins at the column (W - T) / 2 + x of the board, if its number T of"
            + " columns is at most W", LetterTerms::shortStrips);
        Document.test(LETTERS, "and at the column x otherwise", LetterTerms::longStrips);
        Document.test(LETTERS, "columns of it that lie beside the board are left out", LetterTerms::leftOut);
        Document.test(LETTERS, "all other columns of the board are dark", LetterTerms::darkBeside);
    }

    private static void fiveColumns() {
        for (int letter = 0; letter < 26; letter += 25) {
            Board board = new Board();
            Check.due("at first none", board.letter(letter, 0), Edges.NONE);
            for (int index = 0; index < 5; index++) {
                Check.due("one more", board.setColumn(letter, index, 20 + index), index + 1);
                Check.due("is there", board.letter(letter, index), 20 + index);
                Check.due("no further one", board.letter(letter, index + 1), Edges.NONE);
            }
            Check.due("a sixth", board.setColumn(letter, 5, 1), Edges.INVALID);
            Check.due("no sixth", board.letter(letter, 5), Edges.NONE);
        }
        Board text = new Board();
        Check.due("five in a text", Boards.load(text, "z=0102030405;"), 1);
        Check.due("six in a text", Boards.load(text, "z=010203040506;"), -2012);
        Check.due("the fifth", text.letter(25, 4), 5);
        Check.due("no letter 26", text.letter(26, 0), Edges.INVALID);
        Check.due("no letter -1", text.letter(-1, 0), Edges.INVALID);
    }

    private static void twelveCharacters() {
        Board board = new Board();
        Check.due("none", Boards.load(board, ">;"), -2001);
        Check.due("one", Boards.load(board, ">z;"), 1);
        Check.due("twelve", Boards.load(board, ">abcdefghijk_;"), 1);
        Check.due("thirteen", Boards.load(board, ">abcdefghijk_a;"), -2013);
        Check.due("one by a call", board.addMessage(26, -1), 2);
        Check.due("two by a call", board.addMessage(0, 26), 3);
        charactersAre(board, 0, 25);
        charactersAre(board, 1, 0, 1, 2, 3, 4, 5, 6, 7, 8, 9, 10, 26);
        charactersAre(board, 2, 26);
        charactersAre(board, 3, 0, 26);
    }

    private static void charactersAre(Board board, int message, int... characters) {
        for (int index = 0; index < characters.length; index++) {
            Check.due("character", board.message(message, index), characters[index]);
        }
        Check.due("no character more", board.message(message, characters.length), Edges.NONE);
    }

    private static Board eight() {
        Board board = new Board();
        for (int number = 0; number < 8; number++) {
            Check.due("number", board.addMessage(number, -1), number);
        }
        return board;
    }

    private static void eightMessages() {
        Check.due("no message 0 at first", new Board().message(0, 0), Edges.INVALID);
        Board board = eight();
        Check.due("eight", board.count(Boards.MESSAGES), 8);
        Check.due("message 0", board.message(0, 0), 0);
        Check.due("message 7", board.message(7, 0), 7);
        Check.due("no message 8", board.message(8, 0), Edges.INVALID);
        Check.due("a ninth", board.addMessage(8, -1), Edges.FULL);
        Check.due("a ninth by a text", Boards.load(board, ">i;"), -2000);
        Check.due("still eight", board.count(Boards.MESSAGES), 8);
    }

    private static void removed() {
        Board board = eight();
        messagesAre(board, 0, 1, 2, 3, 4, 5, 6, 7);
        Check.due("the last", board.removeMessage(7), 7);
        messagesAre(board, 0, 1, 2, 3, 4, 5, 6);
        Check.due("the first", board.removeMessage(0), 6);
        messagesAre(board, 1, 2, 3, 4, 5, 6);
        Check.due("one between", board.removeMessage(2), 5);
        messagesAre(board, 1, 2, 4, 5, 6);
        Check.due("a new one behind them", board.addMessage(20, -1), 5);
        messagesAre(board, 1, 2, 4, 5, 6, 20);
        Board single = new Board();
        single.addMessage(3, 4);
        Check.due("the only one", single.removeMessage(0), 0);
        messagesAre(single);
        Board lengths = Boards.withText(6, ">a;>bcdefghijklm;>no;");
        lengths.removeMessage(0);
        charactersAre(lengths, 0, 1, 2, 3, 4, 5, 6, 7, 8, 9, 10, 11, 12);
        charactersAre(lengths, 1, 13, 14);
    }

    private static void messagesAre(Board board, int... letters) {
        for (int message = 0; message < letters.length; message++) {
            Check.due("message " + message, board.message(message, 0), letters[message]);
        }
        Check.due("no message more", board.message(letters.length, 0), Edges.INVALID);
    }

    private static void stripIs(String message, int width, int total, int... picture) {
        Board board = Boards.withText(width, PATTERN + ">" + message + ";");
        Check.due("strip of " + message, board.strip(0), total);
        for (int column = 0; column < picture.length; column++) {
            Check.due(message + ", column " + column, board.picture(0, 0, column), picture[column]);
        }
    }

    private static void strips() {
        stripIs("a", 6, 1, 0, 0, 1, 0, 0, 0);
        stripIs("aa", 6, 3, 0, 1, 0, 1, 0, 0);
        stripIs("ab", 7, 4, 0, 1, 0, 1, 2, 0, 0);
        stripIs("ba", 7, 4, 0, 1, 2, 0, 1, 0, 0);
        stripIs("ae", 7, 7, 1, 0, 1, 2, 3, 4, 5);
        stripIs("aea", 9, 9, 1, 0, 1, 2, 3, 4, 5, 0, 1);
        stripIs("aaaaaaaaaaaa", 23, 23, 1, 0, 1, 0, 1, 0, 1, 0, 1, 0, 1, 0, 1, 0, 1, 0, 1, 0, 1, 0, 1, 0, 1);
        stripIs("eeeeeeeeeeee", 6, 71, 1, 2, 3, 4, 5, 0);
    }

    private static void gaps() {
        stripIs("_", 6, 2, 0, 0, 0, 0, 0, 0);
        stripIs("__", 6, 5, 0, 0, 0, 0, 0, 0);
        stripIs("_a", 6, 4, 0, 0, 0, 0, 1, 0);
        stripIs("a_", 6, 4, 0, 1, 0, 0, 0, 0);
        stripIs("a_a", 6, 6, 1, 0, 0, 0, 0, 1);
        stripIs("a__a", 9, 9, 1, 0, 0, 0, 0, 0, 0, 0, 1);
        stripIs("____________", 40, 35);
    }

    private static void lettersWithoutColumns() {
        stripIs("q", 6, 0, 0, 0, 0, 0, 0, 0);
        stripIs("qq", 6, 1, 0, 0, 0, 0, 0, 0);
        stripIs("qa", 6, 2, 0, 0, 0, 1, 0, 0);
        stripIs("aq", 6, 2, 0, 0, 1, 0, 0, 0);
        stripIs("aqa", 6, 4, 0, 1, 0, 0, 1, 0);
        stripIs("qaq", 6, 3, 0, 0, 1, 0, 0, 0);
        stripIs("q_q", 6, 4, 0, 0, 0, 0, 0, 0);
        stripIs("qqqqqqqqqqqq", 11, 11);
        Board board = Boards.withText(6, ">q;");
        for (int shift = -2; shift <= 2; shift++) {
            for (int column = 0; column < 6; column++) {
                Check.due("a strip without columns", board.picture(0, shift, column), 0);
            }
        }
    }

    /** Looks at all columns with each shift; the strip is one of the pattern's. */
    private static void picturesBeginAt(int width, String message, int total, int start) {
        Board made = Boards.withText(width, PATTERN + ">" + message + ";");
        Check.due("strip of " + message, made.strip(0), total);
        for (int shift = -2; shift <= 2; shift++) {
            Board board = made.again();
            for (int column = 0; column < width; column++) {
                int place = column - start - shift;
                int want = place < 0 || place >= total || place % 6 == 5 ? 0 : place % 6 + 1;
                String what = "W " + width + ", T " + total + ", shift " + shift + ", column " + column;
                Check.due(what, board.picture(0, shift, column), want);
            }
        }
    }

    private static void shortStrips() {
        picturesBeginAt(6, "q", 0, 3);
        picturesBeginAt(6, "a", 1, 2);
        picturesBeginAt(6, "b", 2, 2);
        picturesBeginAt(6, "d", 3, 1);
        picturesBeginAt(6, "f", 4, 1);
        picturesBeginAt(6, "e", 5, 0);
        picturesBeginAt(6, "eq", 6, 0);
        picturesBeginAt(7, "a", 1, 3);
        picturesBeginAt(7, "e", 5, 1);
        picturesBeginAt(7, "ea", 7, 0);
        picturesBeginAt(20, "eed", 15, 2);
        picturesBeginAt(39, "eeeeeeb", 38, 0);
        picturesBeginAt(39, "eeeeeed", 39, 0);
        picturesBeginAt(40, "a", 1, 19);
        picturesBeginAt(40, "b", 2, 19);
        picturesBeginAt(40, "eeeeeeb", 38, 1);
        picturesBeginAt(40, "eeeeeed", 39, 0);
        picturesBeginAt(40, "eeeeeef", 40, 0);
    }

    private static void longStrips() {
        picturesBeginAt(6, "ea", 7, 0);
        picturesBeginAt(6, "eb", 8, 0);
        picturesBeginAt(6, "eeeeeeeeeeee", 71, 0);
        picturesBeginAt(7, "eb", 8, 0);
        picturesBeginAt(20, "eeed", 21, 0);
        picturesBeginAt(39, "eeeeeef", 40, 0);
        picturesBeginAt(40, "eeeeeee", 41, 0);
        picturesBeginAt(40, "eeeeeeea", 43, 0);
        picturesBeginAt(40, "eeeeeeeeeeee", 71, 0);
    }

    private static void leftOut() {
        Board board = Boards.withText(6, PATTERN + ">e;>ea;>eeeeeeeeeeee;");
        int[][] pictures = {
            {3, 4, 5, 0, 0, 0}, {2, 3, 4, 5, 0, 0}, {1, 2, 3, 4, 5, 0}, {0, 1, 2, 3, 4, 5}, {0, 0, 1, 2, 3, 4},
        };
        for (int shift = -2; shift <= 2; shift++) {
            for (int column = 0; column < 6; column++) {
                Check.due("shift " + shift, board.picture(0, shift, column), pictures[shift + 2][column]);
            }
        }
        Check.due("of seven columns six are shown", board.show(1, 0), 1 + 1 + 2 + 1 + 2);
        Check.due("of 71 columns six are shown", board.show(2, 0), 1 + 1 + 2 + 1 + 2);
        Check.due("and no more are counted", board.count(Boards.OTHER), 7);
        board.pass(20);
        Check.due("nor flipped", board.count(Boards.FLIPS), 7);
    }

    private static void darkBeside() {
        Board board = Boards.withText(40, PATTERN + "h=7f; >eeeeeeeeeeee; >h; >q;");
        board.show(0, 0);
        board.pass(20);
        for (int message = 1; message <= 2; message++) {
            board.show(message, 0);
            for (int column = 0; column < 40; column++) {
                int want = message == 1 && column == 19 ? 127 : 0;
                Check.due("message " + message + ", column " + column, board.column(column, 1), want);
            }
        }
    }
}
