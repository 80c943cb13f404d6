/** The edges that "Text" names. */
final class TextTerms {
    private static final String TEXT = "Text";

    private TextTerms() {
    }

    static void test() {
        Document.test(TEXT, "a text of at most 120 characters", TextTerms::characters120);
        Document.test(TEXT, "which is built one character at a time", TextTerms::oneAtATime);
        Document.test(TEXT, "a sequence of items, perhaps empty", TextTerms::perhapsEmpty);
        Document.test(TEXT, "each of which ends with \";\":", TextTerms::ends);
        Document.test(TEXT, "LETTER \"=\" and 1 to 5 columns", TextTerms::letters);
        Document.test(TEXT, "each with two digits of 0 to 9 and a to f", TextTerms::digits);
        Document.test(TEXT, "which tell its bits in base 16 (at most 7f)", TextTerms::base16);
        Document.test(TEXT, "these are all columns of the letter from then on", TextTerms::allColumns);
        Document.test(TEXT, "\">\" and the characters of a message, letters a to z and \"_\" for a gap",
            TextTerms::messages);
        Document.test(TEXT, "it is added behind the others", TextTerms::addedBehind);
        Document.test(TEXT, "Spaces (code 32) may stand everywhere", TextTerms::spacesEverywhere);
        Document.test(TEXT, "except between the two digits of a column", TextTerms::noSpacesBetweenDigits);
        Document.test(TEXT, "The text is read from left to right", TextTerms::leftToRight);
        Document.test(TEXT, "the error position is the offset (from 0) of the first character that is not allowed"
            + " where it stands", TextTerms::offsets);
        Document.test(TEXT, "the first character that is not allowed where it stands", TextTerms::everyCode);
        Document.test(TEXT, "(the first digit of a column that is greater than 7 or no such digit",
            TextTerms::firstDigits);
        Document.test(TEXT, "a sixth column, a 13th character", TextTerms::tooMany);
        Document.test(TEXT, "\">\" if there are 8 messages, with those ahead in the text)",
            TextTerms::eightMessages);
        Document.test(TEXT, "If the text ends where something is missing, it is the length of the text",
            TextTerms::somethingMissing);
    }

    /** What load() answers to a text on a new object. */
    private static void answerIs(int answer, String... texts) {
        for (String text : texts) {
            Check.due("'" + text + "'", Boards.load(new Board(), text), answer);
        }
    }

    private static void errorAt(int offset, String... texts) {
        answerIs(-2000 - offset, texts);
    }

    private static void characters120() {
        Board board = new Board();
        for (int item = 0; item < 24; item++) {
            Boards.type(board, "a=01;");
        }
        Check.due("120", board.count(Boards.TEXT), 120);
        Edges.refused(board, Edges.FULL, "the 121st", b -> b.appendCharacter(' '));
        Check.due("24 items", board.load(), 24);
        Check.due("empty", board.count(Boards.TEXT), 0);
        Check.due("room again", board.appendCharacter('a'), 1);
    }

    private static void oneAtATime() {
        Board board = new Board();
        String text = "a=7f;>a_;";
        for (int length = 1; length <= text.length(); length++) {
            Check.due("length", board.appendCharacter(text.charAt(length - 1)), length);
            board.setNumber(0, 10 + length);
            Check.due("kept", board.count(Boards.TEXT), length);
        }
        board.undo();
        board.begin(7);
        Check.due("read as one", board.load(), 2);
        Check.due("column", board.letter(0, 0), 127);
        Check.due("gap", board.message(0, 1), 26);
    }

    private static void perhapsEmpty() {
        answerIs(0, "", " ", "   ", " ".repeat(120));
        Board board = Boards.withText(8, "a=7f; >a;");
        String before = board.look();
        Check.due("no item", board.load(), 0);
        Check.same("nothing is read", board.look(), before);
    }

    private static void ends() {
        answerIs(1, "a=01;", ">b;");
        answerIs(2, "a=01;>b;", ">b;a=01;", "a=01;b=02;", ">b;>c;");
        errorAt(4, "a=01");
        errorAt(2, ">b");
        errorAt(0, ";", ";a=01;", ";;");
        errorAt(5, "a=01;;");
        errorAt(3, ">b;;", ">ba=01;");
        errorAt(4, "a=01>b;", "a=01,b=02;", "a=01:", "a=01b=02;");
        errorAt(2, ">b>c;", ">b,", ">b=01;", ">b:");
    }

    private static void letters() {
        answerIs(1, "a=01;", "z=01;", "a=0102030405;");
        errorAt(0, "`=01;", "{=01;", "A=01;", "Z=01;", "_=01;", "0=01;", "=01;");
        errorAt(1, "a01;", "a;", "ab=01;", "a>b;", "a<01;", "a:01;");
        errorAt(2, "a=;", "a==01;", "a=>b;");
        errorAt(3, "a= ;");
        errorAt(12, "a=010203040506;", "a=0102030405=", "a=0102030405a");
    }

    private static void digits() {
        answerIs(1, "a=00;", "a=09;", "a=0a;", "a=0f;", "a=70;", "a=7f;");
        errorAt(3, "a=0/;", "a=0:;", "a=0`;", "a=0g;", "a=0A;", "a=0F;", "a=0;", "a=0=;", "a=0_;", "a=7z;");
        errorAt(5, "a=010;", "a=010g;", "a=010/;");
        Board board = Boards.withText(6, "a=0123456778; b=090a1b2c3d; c=4e5f6071;");
        int[][] columns = {
            {0x01, 0x23, 0x45, 0x67, 0x78}, {0x09, 0x0a, 0x1b, 0x2c, 0x3d}, {0x4e, 0x5f, 0x60, 0x71},
        };
        for (int letter = 0; letter < columns.length; letter++) {
            for (int index = 0; index < columns[letter].length; index++) {
                Check.due("letter " + letter, board.letter(letter, index), columns[letter][index]);
            }
        }
    }

    private static void base16() {
        Board board = Boards.withText(6, "a=000f10177f;");
        int[] columns = {0, 15, 16, 23, 127};
        for (int index = 0; index < columns.length; index++) {
            Check.due("column " + index, board.letter(0, index), columns[index]);
        }
        errorAt(2, "a=80;", "a=ff;", "a=8f;");
    }

    private static void allColumns() {
        Board board = Boards.withText(9, "a=0102030405; b=01; >a;");
        Check.due("five", board.strip(0), 5);
        Boards.load(board, "a=7f;");
        Check.due("one", board.letter(0, 0), 127);
        Check.due("no second", board.letter(0, 1), Edges.NONE);
        Check.due("strip of one", board.strip(0), 1);
        Boards.load(board, "a=0102; a=0304; a=050607;");
        Check.due("the last ones", board.letter(0, 0), 5);
        Check.due("three", board.strip(0), 3);
        Boards.load(board, "a=1112131415;");
        Check.due("five again", board.letter(0, 4), 0x15);
        Check.due("the other letter stays", board.letter(1, 0), 1);
        Check.due("and gets none", board.letter(1, 1), Edges.NONE);
    }

    private static void messages() {
        answerIs(1, ">a;", ">z;", ">_;", ">az_;", ">____________;", ">abcdefghijkl;");
        errorAt(1, ">;", ">`;", ">{;", ">^;", ">A;", ">Z;", ">0;", ">>a;", ">=;", ">-;");
        errorAt(2, "> ;", ">a`;", ">a{;", ">a^;", ">aA;", ">a0;", ">_-;");
        Board board = Boards.withText(6, ">az_;");
        int[] characters = {0, 25, 26, Edges.NONE};
        for (int index = 0; index < characters.length; index++) {
            Check.due("character " + index, board.message(0, index), characters[index]);
        }
    }

    private static void addedBehind() {
        Board board = new Board();
        board.addMessage(0, -1);
        board.addMessage(1, -1);
        Check.due("two more", Boards.load(board, ">c;>d;"), 2);
        Check.due("then one", board.addMessage(4, -1), 4);
        board.removeMessage(0);
        Check.due("one more", Boards.load(board, ">f;"), 1);
        for (int message = 0; message < 5; message++) {
            Check.due("in this order", board.message(message, 0), message + 1);
        }
        Check.due("no more", board.message(5, 0), Edges.INVALID);
    }

    private static void spacesEverywhere() {
        String text = "a=0123;>b_c;";
        String without = Boards.withText(6, text).look();
        for (int place = 0; place <= text.length(); place++) {
            if (place != 3 && place != 5) {
                for (int spaces = 1; spaces <= 3; spaces++) {
                    String wide = text.substring(0, place) + " ".repeat(spaces) + text.substring(place);
                    Check.same("'" + wide + "'", Boards.withText(6, wide).look(), without);
                }
            }
        }
        String widest = " a = 01 23 ; > b _ c ; ";
        Check.same("'" + widest + "'", Boards.withText(6, widest).look(), without);
        String far = text.substring(0, 7) + " ".repeat(120 - text.length()) + text.substring(7);
        Check.same("'" + far + "'", Boards.withText(6, far).look(), without);
    }

    private static void noSpacesBetweenDigits() {
        errorAt(3, "a=0 123;", "a=0  123;", "a=0 ", "a=0 ;");
        errorAt(5, "a=012 3;", "a=012 ", "a=012 ;");
        errorAt(6, "a=01 2 3;", "a=01 2 ");
        errorAt(11, "a=010203040 5;");
        for (char code : new char[] {0, 9, 10, 13, 31, 33, 160, 255}) {
            errorAt(0, code + "a=01;");
            errorAt(5, "a=01;" + code);
            errorAt(2, ">a" + code + ";");
        }
    }

    private static void leftToRight() {
        errorAt(0, "A=80;;");
        errorAt(3, "a=0g;;A=80;");
        errorAt(6, ">a;>b;;a=80;");
        errorAt(7, ">a;a=01=80;");
        Board board = Boards.withText(9, ">a;>b;>c; a=01; a=02;");
        for (int message = 0; message < 3; message++) {
            Check.due("messages in this order", board.message(message, 0), message);
        }
        Check.due("the right one of two", board.letter(0, 0), 2);
    }

    private static void offsets() {
        errorAt(0, "?", "?a=01;");
        errorAt(1, " ?", "a?");
        StringBuilder text = new StringBuilder();
        while (text.length() < 115) {
            text.append("a=01;");
        }
        errorAt(115, text + "?", text + "?    ", text + ";;;;;");
        errorAt(119, text + "    ?", text + "a=01?", text + ">bcd?", text + "    ;");
        answerIs(24, text + "a=01;", text + " >b; ");
    }

    private static void everyCode() {
        String letters = "abcdefghijklmnopqrstuvwxyz";
        takes("", letters + "> ");
        takes("a", "= ");
        takes("a=", "01234567 ");
        takes("a=0", "0123456789abcdef");
        takes("a=01", "01234567; ");
        takes("a=0102030405", "; ");
        takes("a=01;", letters + "> ");
        takes(">", letters + "_ ");
        takes(">a", letters + "_; ");
        takes(">abcdefghijkl", "; ");
        takes(">a;", letters + "> ");
        takes(">a;>a;>a;>a;>a;>a;>a;>a;", letters + " ");
    }

    /** Each of the codes 0 to 255 behind the text: those that are not named are errors there. */
    private static void takes(String text, String allowed) {
        for (int code = 0; code <= 255; code++) {
            Board board = new Board();
            Boards.type(board, text);
            board.appendCharacter(code);
            boolean isTaken = board.load() != -2000 - text.length();
            Check.due("'" + text + "' and code " + code, isTaken ? 1 : 0, allowed.indexOf(code) >= 0 ? 1 : 0);
        }
    }

    private static void firstDigits() {
        answerIs(1, "a=0f;", "a=7f;", "a=0f7f;");
        errorAt(2, "a=80;", "a=90;", "a=a0;", "a=f0;", "a=g0;", "a=/0;", "a=:0;", "a=`0;", "a=F0;", "a=_0;");
        errorAt(4, "a=0180;", "a=01a0;", "a=01g0;", "a=01F0;", "a=01=0;");
        errorAt(3, "a= 80;", "a= g0;");
        errorAt(10, "a=0102030480;");
        errorAt(2, "a=8", "a=8;", "a=8 0;");
    }

    private static void tooMany() {
        answerIs(1, "a=0102030405;", "a=01 02 03 04 05 ;", ">abcdefghijkl;", ">____________ ;");
        errorAt(12, "a=010203040506;", "a=01020304058", "a=010203040580;", "a=01020304050");
        errorAt(13, "a=0102030405 06;", "a=0102030405 g;");
        errorAt(13, ">abcdefghijklm;", ">abcdefghijkl_;", ">____________a", ">abcdefghijklA;");
        errorAt(14, ">abcdefghijkl m;", "> abcdefghijklm;");
        errorAt(19, "a=01; >abcdefghijklm;");
        errorAt(15, ">a;a=010203040506;");
    }

    private static void eightMessages() {
        errorAt(24, ">a;>a;>a;>a;>a;>a;>a;>a;>a;", ">a;>a;>a;>a;>a;>a;>a;>a;>");
        errorAt(29, ">a;>a;>a;>a;>a;>a;>a;>a;a=01;>a;");
        answerIs(9, ">a;>a;>a;>a;a=01;>a;>a;>a;>a;");
        Board board = new Board();
        for (int number = 0; number < 7; number++) {
            board.addMessage(0, -1);
        }
        Check.due("seven there, two more", Boards.load(board, ">b;>c;"), -2003);
        Check.due("none of them", board.count(Boards.MESSAGES), 7);
        Check.due("seven there, one more", Boards.load(board, ">b;"), 1);
        Check.due("eight there", Boards.load(board, " >b;"), -2001);
        Check.due("letters may come", Boards.load(board, "a=01;"), 1);
        board.removeMessage(7);
        Check.due("seven again", Boards.load(board, ">b;"), 1);
    }

    private static void somethingMissing() {
        String text = " a = 01 7f ; > b _ ; ";
        for (int length = 0; length <= text.length(); length++) {
            String part = text.substring(0, length);
            if (length <= 1) {
                answerIs(0, part);
            } else if (length >= 20) {
                answerIs(2, part);
            } else if (length == 12 || length == 13) {
                answerIs(1, part);
            } else {
                errorAt(length, part);
            }
        }
        errorAt(1, "a", ">");
        errorAt(3, "a  ", ">  ", "a=0");
        errorAt(120, "a=01" + " ".repeat(116), " ".repeat(119) + "a", " ".repeat(119) + ">", " ".repeat(117) + "a=7");
        errorAt(12, "a=0102030405");
        errorAt(13, ">abcdefghijkl");
    }
}
