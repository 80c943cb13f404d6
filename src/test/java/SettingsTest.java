/** Promises 1 to 4: a new object, begin, setNumber, setColumn. */
public final class SettingsTest {
    private static final int INVALID = Boards.INVALID;
    private static final int NONE = Boards.NONE;

    public static void main(String[] args) {
        newObject();
        begin();
        beginKeeps();
        setNumber();
        setNumberOnDots();
        setColumn();
        Check.end();
    }

    private static void newObject() {
        Board board = new Board();
        int[] counts = {20, 10, 0, 100, 0, 0, 0, 0, 0, 0, 0, 0, 0, 0, 0};
        for (int what = 0; what < counts.length; what++) {
            Check.due("1: count " + what, board.count(what), counts[what]);
        }
        for (int column = 0; column < 20; column++) {
            for (int what = 0; what < 4; what++) {
                Check.due("1: column", board.column(column, what), 0);
            }
            for (int row = 0; row < 7; row++) {
                Check.due("1: flips", board.flips(column, row), 0);
            }
        }
        for (int letter = 0; letter < 26; letter++) {
            Check.due("1: letter", board.letter(letter, 0), NONE);
        }
        Check.due("1: column 20", board.column(20, 0), INVALID);
        Check.due("1: message", board.message(0, 0), INVALID);
        Check.due("1: power", board.power(1), NONE);
        Check.due("1: undo", board.undo(), Boards.ILLEGAL);
        Board other = new Board();
        other.setColumn(0, 0, 5);
        other.setNumber(0, 20);
        Check.due("1: objects are apart, letter", board.letter(0, 0), NONE);
        Check.due("1: objects are apart, number", board.count(1), 10);
        Check.due("1: a later object is new", new Board().count(1), 10);
    }

    private static void begin() {
        Board board = new Board();
        Check.due("2: begin 5", board.begin(5), INVALID);
        Check.due("2: begin 41", board.begin(41), INVALID);
        Check.due("2: begin least", board.begin(Integer.MIN_VALUE), INVALID);
        Check.due("2: begin greatest", board.begin(Integer.MAX_VALUE), INVALID);
        Check.due("2: nothing changed", board.count(Boards.WIDTH), 20);
        Check.due("2: nothing saved", board.count(Boards.SAVED), 0);
        Check.due("2: begin 6", board.begin(6), 20);
        Check.due("2: begin 40", board.begin(40), 6);
        Check.due("2: begin 40 again", board.begin(40), 40);
        Check.due("2: width", board.count(Boards.WIDTH), 40);
        Check.due("2: saved", board.count(Boards.SAVED), 3);
    }

    private static void beginKeeps() {
        Board board = Boards.withText(40, "a=7f7f7f7f7f; b=0102; >aaaaaaaaaaaa; >b_;");
        board.setNumber(0, 50);
        board.setNumber(1, 2);
        board.setNumber(2, 1);
        board.show(0, 0);
        board.pass(30);
        board.show(1, 0);
        board.pass(3);
        Boards.type(board, "xyz");
        Check.that("2: something is counted", board.count(Boards.TRIES) > 0);
        Check.due("2: begin again", board.begin(30), 40);
        int[] counts = {30, 50, 2, 1, 2, 0, 0, 0, 0, 0, 0, 0, 0, 3, 6};
        for (int what = 0; what < counts.length; what++) {
            Check.due("2: count behind begin " + what, board.count(what), counts[what]);
        }
        board.begin(40);
        Board other = Boards.withText(40, "a=7f7f7f7f7f; b=0102; >aaaaaaaaaaaa; >b_;");
        other.setNumber(0, 50);
        other.setNumber(1, 2);
        other.setNumber(2, 1);
        Check.same("2: all is new but letters, messages and numbers", board.look(), other.look());
        Check.due("2: power behind begin", board.power(1), NONE);
        Check.due("2: letter stays", board.letter(1, 1), 2);
        Check.due("2: message stays", board.message(1, 1), 26);
        board.pass(1);
        Check.due("2: a dark second", board.power(1), 0);
        Check.due("2: only one second", board.power(2), NONE);
    }

    private static void setNumber() {
        int[] first = {10, 0, 100};
        int[] least = {2, 0, 1};
        int[] most = {50, 2, 200};
        Board board = new Board();
        for (int what = 0; what < 3; what++) {
            Check.due("3: below " + what, board.setNumber(what, least[what] - 1), INVALID);
            Check.due("3: above " + what, board.setNumber(what, most[what] + 1), INVALID);
            Check.due("3: far below", board.setNumber(what, Integer.MIN_VALUE), INVALID);
            Check.due("3: far above", board.setNumber(what, Integer.MAX_VALUE), INVALID);
            Check.due("3: as it was", board.count(1 + what), first[what]);
            Check.due("3: least " + what, board.setNumber(what, least[what]), first[what]);
            Check.due("3: most " + what, board.setNumber(what, most[what]), least[what]);
            Check.due("3: the same " + what, board.setNumber(what, most[what]), most[what]);
            Check.due("3: then " + what, board.count(1 + what), most[what]);
        }
        Check.due("3: what -1", board.setNumber(-1, 5), INVALID);
        Check.due("3: what 3", board.setNumber(3, 5), INVALID);
        Check.due("3: what least", board.setNumber(Integer.MIN_VALUE, 5), INVALID);
        Check.due("3: what greatest", board.setNumber(Integer.MAX_VALUE, 5), INVALID);
        Board other = new Board();
        other.setNumber(0, 11);
        other.setNumber(0, 11);
        other.setNumber(0, 99);
        Check.due("3: the same value is saved too, a wrong one not", other.count(Boards.SAVED), 2);
    }

    /** Dots that are stuck stay so; a dot with as many flips sticks with its next one. */
    private static void setNumberOnDots() {
        Board board = Boards.withText(6, "a=03; b=01; >a; >b;");
        board.setNumber(2, 3);
        for (int i = 0; i < 2; i++) {
            board.show(0, 0);
            board.pass(1);
            board.darken();
            board.pass(1);
        }
        // the third flip has made both stuck, the fourth was tried in vain
        Check.due("3: flips", board.flips(2, 0), 3);
        Check.due("3: stuck", board.count(Boards.STUCK), 2);
        board.setNumber(2, 200);
        Check.due("3: stuck dots stay stuck", board.count(Boards.STUCK), 2);
        board.begin(6);
        for (int i = 0; i < 2; i++) {
            board.show(0, 0);
            board.pass(1);
            board.darken();
            board.pass(1);
        }
        board.setNumber(2, 2);
        Check.due("3: not stuck by the number alone", board.count(Boards.STUCK), 0);
        board.show(1, 0);
        board.pass(1);
        Check.due("3: the next flip is made", board.flips(2, 0), 5);
        Check.due("3: and sticks", board.column(2, 2), 1);
        Check.due("3: bright", board.column(2, 0), 1);
        Check.due("3: not known yet", board.count(Boards.KNOWN), 0);
    }

    private static void setColumn() {
        Board board = new Board();
        Check.due("4: index 1 of none", board.setColumn(0, 1, 1), INVALID);
        for (int index = 0; index < 5; index++) {
            Check.due("4: add", board.setColumn(25, index, 10 + index), index + 1);
        }
        Check.due("4: index 5", board.setColumn(25, 5, 1), INVALID);
        Check.due("4: set one that is there", board.setColumn(25, 1, 127), 5);
        int[] columns = {10, 127, 12, 13, 14};
        for (int index = 0; index < 5; index++) {
            Check.due("4: letter", board.letter(25, index), columns[index]);
        }
        Check.due("4: no letter -1", board.setColumn(-1, 0, 1), INVALID);
        Check.due("4: no letter 26", board.setColumn(26, 0, 1), INVALID);
        Check.due("4: no letter greatest", board.setColumn(Integer.MAX_VALUE, 0, 1), INVALID);
        Check.due("4: index -1", board.setColumn(0, -1, 1), INVALID);
        Check.due("4: index least", board.setColumn(0, Integer.MIN_VALUE, 1), INVALID);
        Check.due("4: index greatest", board.setColumn(0, Integer.MAX_VALUE, 1), INVALID);
        Check.due("4: bits -1", board.setColumn(0, 0, -1), INVALID);
        Check.due("4: bits 128", board.setColumn(0, 0, 128), INVALID);
        Check.due("4: saved", board.count(Boards.SAVED), 6);
        Check.due("4: bits 0", board.setColumn(0, 0, 0), 1);
        Check.due("4: dark column", board.letter(0, 0), 0);
        Check.due("4: another letter has none", board.letter(24, 0), NONE);
    }
}
