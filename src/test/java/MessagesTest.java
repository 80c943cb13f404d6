/** Promises 5 to 9: addMessage, removeMessage, appendCharacter, clearText, load. */
public final class MessagesTest {
    private static final int INVALID = Boards.INVALID;
    private static final int FULL = Boards.FULL;
    private static final int NONE = Boards.NONE;

    public static void main(String[] args) {
        addMessage();
        removeMessage();
        removedMessageStaysAimed();
        appendCharacter();
        clearText();
        loadItems();
        loadSpaces();
        loadErrorsInLetters();
        loadErrorsInMessages();
        loadErrorsInItems();
        loadFullOfMessages();
        loadKeepsTextOnError();
        Check.end();
    }

    private static void addMessage() {
        Board board = new Board();
        Check.due("5: first -1", board.addMessage(-1, 0), INVALID);
        Check.due("5: first 27", board.addMessage(27, 0), INVALID);
        Check.due("5: second -2", board.addMessage(0, -2), INVALID);
        Check.due("5: second 27", board.addMessage(0, 27), INVALID);
        Check.due("5: greatest", board.addMessage(Integer.MAX_VALUE, 0), INVALID);
        Check.due("5: least", board.addMessage(0, Integer.MIN_VALUE), INVALID);
        Check.due("5: nothing saved", board.count(Boards.SAVED), 0);
        Check.due("5: number 0", board.addMessage(0, 25), 0);
        Check.due("5: number 1", board.addMessage(26, -1), 1);
        Check.due("5: number 2", board.addMessage(25, 26), 2);
        for (int number = 3; number < 8; number++) {
            Check.due("5: number", board.addMessage(number, -1), number);
        }
        int[][] messages = {{0, 25, NONE}, {26, NONE, NONE}, {25, 26, NONE}, {3, NONE, NONE}};
        for (int message = 0; message < messages.length; message++) {
            for (int index = 0; index < 3; index++) {
                Check.due("5: character", board.message(message, index), messages[message][index]);
            }
        }
        Check.due("5: messages", board.count(Boards.MESSAGES), 8);
        Check.due("5: full", board.addMessage(0, 0), FULL);
        Check.due("5: wrong and full", board.addMessage(27, 0), INVALID);
        Check.due("5: wrong second and full", board.addMessage(0, 27), INVALID);
        board.removeMessage(3);
        Check.due("5: room again", board.addMessage(7, 7), 7);
        Check.due("5: the last one", board.message(7, 1), 7);
    }

    private static void removeMessage() {
        Board board = new Board();
        Check.due("6: none there", board.removeMessage(0), INVALID);
        Boards.load(board, ">abcdefghijkl;>m;>no;>pqr;>s;>t;>uv;>wxyz;");
        Check.due("6: -1", board.removeMessage(-1), INVALID);
        Check.due("6: 8", board.removeMessage(8), INVALID);
        Check.due("6: least", board.removeMessage(Integer.MIN_VALUE), INVALID);
        Check.due("6: greatest", board.removeMessage(Integer.MAX_VALUE), INVALID);
        Check.due("6: nothing saved", board.count(Boards.SAVED), 1);
        Check.due("6: the second", board.removeMessage(1), 7);
        String[] left = {"abcdefghijkl", "no", "pqr", "s", "t", "uv", "wxyz"};
        messagesAre(board, left);
        Check.due("6: the last", board.removeMessage(6), 6);
        Check.due("6: the first", board.removeMessage(0), 5);
        messagesAre(board, new String[] {"no", "pqr", "s", "t", "uv"});
        for (int number = 4; number >= 0; number--) {
            Check.due("6: first again", board.removeMessage(0), number);
        }
        Check.due("6: none left", board.removeMessage(0), INVALID);
    }

    private static void messagesAre(Board board, String[] messages) {
        Check.due("messages", board.count(Boards.MESSAGES), messages.length);
        for (int message = 0; message < messages.length; message++) {
            String characters = messages[message];
            for (int index = 0; index < characters.length(); index++) {
                char sign = characters.charAt(index);
                int want = sign == '_' ? 26 : sign - 'a';
                Check.due("character of " + characters, board.message(message, index), want);
            }
            Check.due("end of " + characters, board.message(message, characters.length()), NONE);
        }
        Check.due("no more messages", board.message(messages.length, 0), INVALID);
    }

    private static void removedMessageStaysAimed() {
        Board board = Boards.withText(6, "a=7f; >a;");
        board.show(0, 0);
        board.removeMessage(0);
        Check.due("6: the aim stays", board.column(2, 1), 127);
        Check.due("6: due dots stay", board.count(Boards.DUE), 7);
    }

    private static void appendCharacter() {
        Board board = new Board();
        Check.due("7: -1", board.appendCharacter(-1), INVALID);
        Check.due("7: 256", board.appendCharacter(256), INVALID);
        Check.due("7: least", board.appendCharacter(Integer.MIN_VALUE), INVALID);
        Check.due("7: greatest", board.appendCharacter(Integer.MAX_VALUE), INVALID);
        Check.due("7: empty", board.count(Boards.TEXT), 0);
        Check.due("7: 0", board.appendCharacter(0), 1);
        Check.due("7: 255", board.appendCharacter(255), 2);
        for (int length = 3; length <= 120; length++) {
            Check.due("7: length", board.appendCharacter(' '), length);
        }
        Check.due("7: full", board.appendCharacter(' '), FULL);
        Check.due("7: wrong and full", board.appendCharacter(256), INVALID);
        Check.due("7: still 120", board.count(Boards.TEXT), 120);
        Check.due("7: nothing saved", board.count(Boards.SAVED), 0);
    }

    private static void clearText() {
        Board board = new Board();
        Check.due("8: empty", board.clearText(), 0);
        Boards.type(board, "a=7f;");
        Check.due("8: five", board.clearText(), 5);
        Check.due("8: none", board.count(Boards.TEXT), 0);
        Check.due("8: nothing left to read", board.load(), 0);
        Check.due("8: no letter", board.letter(0, 0), NONE);
        board.undo();
        Check.due("8: nothing saved", board.count(Boards.SAVED), 0);
        Boards.type(board, "b=11;");
        board.clearText();
        Boards.type(board, ">z;");
        Check.due("8: only the new text", board.load(), 1);
        Check.due("8: no letter b", board.letter(1, 0), NONE);
    }

    private static void loadItems() {
        Board board = new Board();
        Check.due("9: empty", Boards.load(board, ""), 0);
        Check.due("9: empty is saved too", board.count(Boards.SAVED), 1);
        Check.due("9: a letter", Boards.load(board, "z=007f0a3c45;"), 1);
        int[] columns = {0, 0x7f, 0x0a, 0x3c, 0x45};
        for (int index = 0; index < 5; index++) {
            Check.due("9: column", board.letter(25, index), columns[index]);
        }
        Check.due("9: the text is empty", board.count(Boards.TEXT), 0);
        Check.due("9: fewer columns", Boards.load(board, "z=01;"), 1);
        Check.due("9: the one", board.letter(25, 0), 1);
        Check.due("9: no second", board.letter(25, 1), NONE);
        board.setColumn(25, 1, 9);
        Check.due("9: no third", board.letter(25, 2), NONE);
        Check.due("9: twice the same", Boards.load(board, "a=010203;a=7f;>a;a=10;"), 4);
        Check.due("9: the last counts", board.letter(0, 0), 0x10);
        Check.due("9: alone", board.letter(0, 1), NONE);
        Check.due("9: twelve", Boards.load(board, ">abcdefghijk_;>_;>zz;"), 3);
        messagesAre(board, new String[] {"a", "abcdefghijk_", "_", "zz"});
        Check.due("9: all digits", Boards.load(board, "c=1023456779;d=480a1b2c3d;e=4e5f;"), 3);
        int[][] digits = {{0x10, 0x23, 0x45, 0x67, 0x79}, {0x48, 0x0a, 0x1b, 0x2c, 0x3d}, {0x4e, 0x5f}};
        for (int letter = 0; letter < digits.length; letter++) {
            for (int index = 0; index < digits[letter].length; index++) {
                Check.due("9: digits", board.letter(2 + letter, index), digits[letter][index]);
            }
        }
        Check.due("9: z anew", Boards.load(board, "z=7e7f;"), 1);
        Check.due("9: drawn anew", board.strip(3), 5);
    }

    private static void loadSpaces() {
        Board board = new Board();
        Check.due("9: spaces alone", Boards.load(board, "   "), 0);
        Check.due("9: spaces everywhere", Boards.load(board, "  a = 01  02 ; > b  _ a ;  "), 2);
        Check.due("9: two columns", board.letter(0, 1), 2);
        Check.due("9: no third", board.letter(0, 2), NONE);
        messagesAre(board, new String[] {"b_a"});
        Check.due("9: within a column", Boards.load(board, "a=0 1;"), -2003);
        Check.due("9: at the end of a half column", Boards.load(board, "a=01 0 "), -2006);
        Check.due("9: another sign than a space", Boards.load(board, "a=01;\t"), -2005);
        Check.due("9: code 0 is no space", Boards.load(board, "a=01;" + (char) 0), -2005);
        Check.due("9: code 160 is no space", Boards.load(board, (char) 160 + "a=01;"), -2000);
        StringBuilder full = new StringBuilder("a=01;");
        while (full.length() < 120) {
            full.append(' ');
        }
        Check.due("9: a full text", Boards.load(board, full.toString()), 1);
        full.setCharAt(119, 'b');
        Check.due("9: an end missing at 120", Boards.load(board, full.toString()), -2120);
    }

    private static void loadErrorsInLetters() {
        String[] texts = {
            "a", "a=", "a=7", "a=7f", "a=7f7", "a=7f7f7f7f7f",
            "a;", "a=;", "a==7f;", "a=80;", "a=a0;", "a=f0;", "a=g0;", "a=7g;", "a=7F;",
            "a=A0;", "a=7f,", "a=7f7f7f7f7f0", "a=7f7f7f7f7f7f;", "a=7f7f7f7f7f ;;", "a=7;",
            "a=7f>a;", "a7f;", "ab=7f;", "a=7f;b=7", "a=-1;", "a=0/;", "a=0:;", "a=0`;", "a=/0;",
            "a=:0;", "a = ", "a=00;;", "a=7f7f7f7f7f=", "a= 8", "a=7f8",
        };
        int[] errors = {
            1, 2, 3, 4, 5, 12,
            1, 2, 2, 2, 2, 2, 2, 3, 3,
            2, 4, 12, 12, 14, 3,
            4, 1, 1, 8, 2, 3, 3, 3, 2,
            2, 4, 5, 12, 3, 4,
        };
        errorsAre(texts, errors);
    }

    private static void loadErrorsInMessages() {
        String[] texts = {
            ">", ">a", ">;", "> ;", ">abcdefghijklm;", ">abcdefghijkl", ">abcdefghijkl_;",
            ">A;", ">a>b;", ">a=;", ">0;", ">a;b", ">____________ _", ">{;", ">`;", ">a-b;",
        };
        int[] errors = {1, 2, 1, 2, 13, 13, 13, 1, 2, 2, 1, 4, 14, 1, 1, 2};
        errorsAre(texts, errors);
    }

    private static void loadErrorsInItems() {
        String[] texts = {";", "=", "_", "A=00;", "0", " ;", "a=00; ;", "{=00;", "`=00;", "<a;"};
        int[] errors = {0, 0, 0, 0, 0, 1, 6, 0, 0, 0};
        errorsAre(texts, errors);
        Board board = new Board();
        board.appendCharacter(255);
        Check.due("9: code 255", board.load(), -2000);
    }

    private static void errorsAre(String[] texts, int[] errors) {
        Check.due("as many errors as texts", errors.length, texts.length);
        for (int i = 0; i < texts.length; i++) {
            Check.due("9: '" + texts[i] + "'", Boards.load(new Board(), texts[i]), -2000 - errors[i]);
        }
    }

    private static void loadFullOfMessages() {
        Board board = new Board();
        Check.due("9: nine", Boards.load(board, ">a;>a;>a;>a;>a;>a;>a;>a;>a;"), -2024);
        Check.due("9: none of them", board.count(Boards.MESSAGES), 0);
        Check.due("9: eight", Boards.load(board, ">a;>b;>c;>d;>e;>f;>g;>h; a=01;"), 9);
        Check.due("9: full already", Boards.load(board, "b=01; >a;"), -2006);
        Check.due("9: letters still", Boards.load(board, "b=01;"), 1);
        board.removeMessage(0);
        board.removeMessage(0);
        Check.due("9: seven there", Boards.load(board, " >x;>y;>z;"), -2007);
        Check.due("9: two more", Boards.load(board, ">x;>y;"), 2);
        messagesAre(board, new String[] {"c", "d", "e", "f", "g", "h", "x", "y"});
    }

    private static void loadKeepsTextOnError() {
        Board board = new Board();
        Boards.load(board, "a=0102;>a;");
        String before = board.look();
        Check.due("9: error behind good items", Boards.load(board, "a=7f;b=01;>ab;c=8"), -2016);
        Check.same("9: nothing changes", board.look(), before);
        Check.due("9: nothing saved", board.count(Boards.SAVED), 1);
        Check.due("9: the text is kept", board.count(Boards.TEXT), 17);
        Check.due("9: the same error again", board.load(), -2016);
        Check.due("9: clear", board.clearText(), 17);
        Boards.type(board, "a=7f;>a");
        Check.due("9: an end missing", board.load(), -2007);
        board.appendCharacter(';');
        Check.due("9: goes on", board.load(), 2);
        Check.due("9: read", board.letter(0, 0), 127);
        Boards.type(board, "b=01;");
        board.undo();
        Check.due("9: undo keeps the text", board.count(Boards.TEXT), 5);
        Check.due("9: undo takes the items", board.letter(0, 0), 1);
        Check.due("9: and the message", board.count(Boards.MESSAGES), 1);
    }
}
