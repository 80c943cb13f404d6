/** Promises 15 to 22: count, column, flips, letter, message, strip, picture, power. */
public final class LookingTest {
    private static final int INVALID = Boards.INVALID;
    private static final int NONE = Boards.NONE;

    public static void main(String[] args) {
        count();
        countTellsSidesApart();
        column();
        flips();
        letter();
        message();
        strip();
        pictureInTheMiddle();
        pictureOfALongStrip();
        pictureArguments();
        power();
        powerOfTwentySeconds();
        nothingChanges();
        Check.end();
    }

    private static void countsAre(String what, Board board, int... counts) {
        for (int number = 0; number < counts.length; number++) {
            Check.due(what + ", count " + number, board.count(number), counts[number]);
        }
    }

    private static void count() {
        Board board = Boards.withText(8, "a=7f; >a; >b; >c;");
        int[] wrong = {-1, 15, 16, Integer.MIN_VALUE, Integer.MAX_VALUE};
        for (int what : wrong) {
            Check.due("15: wrong what", board.count(what), INVALID);
        }
        board.setNumber(0, 4);
        board.setNumber(1, 1);
        board.setNumber(2, 77);
        board.jam(3, 1);
        board.jam(7, 6);
        board.show(0, 0);
        board.pass(1);
        Boards.type(board, "xy");
        // one unit for the column, rows 0 to 2, of which row 1 is stuck
        countsAre("15", board, 8, 4, 1, 77, 3, 4, 2, 1, 5, 2, 1, 4, 1, 2, 6);
        board.pass(4);
        countsAre("15: later", board, 8, 4, 1, 77, 3, 0, 2, 1, 1, 6, 1, 4 + 4 + 2, 5, 2, 6);
        board.mend(3, 1);
        countsAre("15: mended", board, 8, 4, 1, 77, 3, 1, 1, 0, 1, 6, 1, 10, 5, 2, 6);
        board.undo();
        countsAre("15: not mended", board, 8, 4, 1, 77, 3, 0, 2, 1, 1, 6, 1, 10, 5, 2, 5);
    }

    private static void countTellsSidesApart() {
        Board board = Boards.withText(40, "a=7f; >a;");
        board.jam(39, 6);
        board.jam(0, 0);
        Check.due("15: stuck at both ends", board.count(Boards.STUCK), 2);
        Check.due("15: not known", board.count(Boards.KNOWN), 0);
        Check.due("15: not due", board.count(Boards.DUE), 0);
        Board full = Boards.withText(40, "a=7f7f7f7f7f; >aaaaaaaaaaaa;");
        full.show(0, 0);
        Check.due("15: due to both ends", full.count(Boards.DUE), 238);
        Check.due("15: another side, to both ends", full.count(Boards.OTHER), 238);
    }

    private static void column() {
        Board board = Boards.withText(40, "a=7f7f7f7f7f; >aaaaaaaaaaaa;");
        int[] wrong = {-1, 40, Integer.MIN_VALUE, Integer.MAX_VALUE};
        for (int column : wrong) {
            Check.due("16: no such column", board.column(column, 0), INVALID);
        }
        int[] wrongWhat = {-1, 4, Integer.MIN_VALUE, Integer.MAX_VALUE};
        for (int what : wrongWhat) {
            Check.due("16: wrong what", board.column(0, what), INVALID);
        }
        board.show(0, 0);
        board.jam(39, 6);
        board.jam(39, 0);
        board.setNumber(1, 1);
        board.setNumber(0, 3);
        board.pass(1);
        int[] last = {2, 127, 65, 1};
        for (int what = 0; what < 4; what++) {
            Check.due("16: last column, " + what, board.column(39, what), last[what]);
        }
        Check.due("16: a column between two letters", board.column(35, 1), 0);
        board.begin(39);
        Check.due("16: beside the board", board.column(39, 0), INVALID);
        Check.due("16: within it", board.column(38, 0), 0);
    }

    private static void flips() {
        Board board = Boards.withText(6, "a=41; >a;");
        int[] wrongColumns = {-1, 6, Integer.MIN_VALUE, Integer.MAX_VALUE};
        for (int column : wrongColumns) {
            Check.due("17: no such column", board.flips(column, 0), INVALID);
        }
        int[] wrongRows = {-1, 7, Integer.MIN_VALUE, Integer.MAX_VALUE};
        for (int row : wrongRows) {
            Check.due("17: no such row", board.flips(0, row), INVALID);
        }
        for (int time = 1; time <= 4; time++) {
            if (time % 2 == 1) {
                board.show(0, 0);
            } else {
                board.darken();
            }
            board.pass(1);
            int[] want = {time, 0, 0, 0, 0, 0, time};
            for (int row = 0; row < 7; row++) {
                Check.due("17: flips", board.flips(2, row), want[row]);
                Check.due("17: none beside", board.flips(3, row), 0);
            }
        }
    }

    private static void letter() {
        Board board = Boards.withText(6, "a=01; z=0203040506;");
        Check.due("18: letter -1", board.letter(-1, 0), INVALID);
        Check.due("18: letter 26", board.letter(26, 0), INVALID);
        Check.due("18: letter least", board.letter(Integer.MIN_VALUE, 9), INVALID);
        Check.due("18: letter greatest", board.letter(Integer.MAX_VALUE, 9), INVALID);
        Check.due("18: index -1", board.letter(0, -1), INVALID);
        Check.due("18: index least", board.letter(1, Integer.MIN_VALUE), INVALID);
        Check.due("18: no second", board.letter(0, 1), NONE);
        Check.due("18: none", board.letter(1, 0), NONE);
        Check.due("18: far behind", board.letter(0, Integer.MAX_VALUE), NONE);
        Check.due("18: a", board.letter(0, 0), 1);
        for (int index = 0; index < 5; index++) {
            Check.due("18: z", board.letter(25, index), 2 + index);
        }
        Check.due("18: no sixth", board.letter(25, 5), NONE);
    }

    private static void message() {
        Board board = Boards.withText(6, ">abcdefghijk_; >z;");
        Check.due("19: message -1", board.message(-1, 0), INVALID);
        Check.due("19: message 2", board.message(2, 0), INVALID);
        Check.due("19: message 8", board.message(8, 99), INVALID);
        Check.due("19: message greatest", board.message(Integer.MAX_VALUE, 99), INVALID);
        Check.due("19: index -1", board.message(0, -1), INVALID);
        Check.due("19: index least", board.message(0, Integer.MIN_VALUE), INVALID);
        Check.due("19: no second", board.message(1, 1), NONE);
        Check.due("19: no 13th", board.message(0, 12), NONE);
        Check.due("19: far behind", board.message(1, Integer.MAX_VALUE), NONE);
        for (int index = 0; index < 11; index++) {
            Check.due("19: letters", board.message(0, index), index);
        }
        Check.due("19: gap", board.message(0, 11), 26);
        Check.due("19: z", board.message(1, 0), 25);
    }

    private static void strip() {
        String texts = "a=01; b=0102; e=0102030405;"
            + ">a; >ab; >q; >qq; >_; >__; >a_b; >eeeeeeeeeeee;";
        int[] columns = {1, 4, 0, 1, 2, 5, 7, 71};
        Board board = Boards.withText(6, texts);
        for (int message = 0; message < columns.length; message++) {
            Check.due("20: strip", board.strip(message), columns[message]);
        }
        Check.due("20: 8", board.strip(8), INVALID);
        Check.due("20: -1", board.strip(-1), INVALID);
        Check.due("20: least", board.strip(Integer.MIN_VALUE), INVALID);
        Check.due("20: greatest", board.strip(Integer.MAX_VALUE), INVALID);
        board.setColumn(16, 0, 0);
        Check.due("20: a dark column is one", board.strip(3), 3);
        board.removeMessage(0);
        Check.due("20: moved up", board.strip(0), 4);
        Check.due("20: no longer there", board.strip(7), INVALID);
    }

    private static void pictureIs(Board board, int message, int shift, int... bits) {
        Check.due("21: all columns", board.count(Boards.WIDTH), bits.length);
        for (int column = 0; column < bits.length; column++) {
            String what = "21: message " + message + ", shift " + shift + ", column " + column;
            Check.due(what, board.picture(message, shift, column), bits[column]);
        }
    }

    private static void pictureInTheMiddle() {
        Board board = Boards.withText(7, "a=01; b=7f40; e=0102030405; >a; >b; >e; >a_b; >q; >eq; >aa;");
        pictureIs(board, 0, 0, 0, 0, 0, 1, 0, 0, 0);
        pictureIs(board, 0, -2, 0, 1, 0, 0, 0, 0, 0);
        pictureIs(board, 0, -1, 0, 0, 1, 0, 0, 0, 0);
        pictureIs(board, 0, 1, 0, 0, 0, 0, 1, 0, 0);
        pictureIs(board, 0, 2, 0, 0, 0, 0, 0, 1, 0);
        pictureIs(board, 1, 0, 0, 0, 127, 64, 0, 0, 0);
        pictureIs(board, 2, 0, 0, 1, 2, 3, 4, 5, 0);
        pictureIs(board, 2, 2, 0, 0, 0, 1, 2, 3, 4);
        pictureIs(board, 2, -2, 2, 3, 4, 5, 0, 0, 0);
        // seven columns: a, dark, gap, gap, dark, b, b
        pictureIs(board, 3, 0, 1, 0, 0, 0, 0, 127, 64);
        pictureIs(board, 3, -1, 0, 0, 0, 0, 127, 64, 0);
        pictureIs(board, 3, 1, 0, 1, 0, 0, 0, 0, 127);
        pictureIs(board, 4, 2, 0, 0, 0, 0, 0, 0, 0);
        // the dark column behind the last letter with columns counts
        pictureIs(board, 5, 0, 1, 2, 3, 4, 5, 0, 0);
        pictureIs(board, 5, 1, 0, 1, 2, 3, 4, 5, 0);
        pictureIs(board, 6, 0, 0, 0, 1, 0, 1, 0, 0);
    }

    private static void pictureOfALongStrip() {
        Board board = Boards.withText(6, "a=0102030405; b=0607; >aa; >ab; >aaaaaaaaaaaa;");
        pictureIs(board, 0, 0, 1, 2, 3, 4, 5, 0);
        pictureIs(board, 0, 2, 0, 0, 1, 2, 3, 4);
        pictureIs(board, 0, 1, 0, 1, 2, 3, 4, 5);
        pictureIs(board, 0, -1, 2, 3, 4, 5, 0, 1);
        pictureIs(board, 0, -2, 3, 4, 5, 0, 1, 2);
        pictureIs(board, 1, -2, 3, 4, 5, 0, 6, 7);
        pictureIs(board, 2, 0, 1, 2, 3, 4, 5, 0);
        board.begin(40);
        Check.due("21: the end of the board", board.picture(2, -2, 39), 0);
        Check.due("21: a column ahead of it", board.picture(2, -2, 38), 5);
        Check.due("21: at the edge", board.picture(2, 2, 39), 2);
        board.begin(12);
        pictureIs(board, 0, 0, 1, 2, 3, 4, 5, 0, 1, 2, 3, 4, 5, 0);
        board.begin(13);
        pictureIs(board, 0, 0, 0, 1, 2, 3, 4, 5, 0, 1, 2, 3, 4, 5, 0);
    }

    private static void pictureArguments() {
        Board board = Boards.withText(6, "a=01; >a;");
        Check.due("21: message -1", board.picture(-1, 0, 0), INVALID);
        Check.due("21: message 1", board.picture(1, 0, 0), INVALID);
        Check.due("21: message greatest", board.picture(Integer.MAX_VALUE, 0, 0), INVALID);
        Check.due("21: shift -3", board.picture(0, -3, 0), INVALID);
        Check.due("21: shift 3", board.picture(0, 3, 0), INVALID);
        Check.due("21: shift least", board.picture(0, Integer.MIN_VALUE, 0), INVALID);
        Check.due("21: column -1", board.picture(0, 0, -1), INVALID);
        Check.due("21: column 6", board.picture(0, 0, 6), INVALID);
        Check.due("21: column least", board.picture(0, 0, Integer.MIN_VALUE), INVALID);
        Check.due("21: column greatest", board.picture(0, 0, Integer.MAX_VALUE), INVALID);
    }

    private static void power() {
        Board board = Boards.withText(6, "a=7f; >a;");
        int[] wrong = {0, 21, -1, Integer.MIN_VALUE, Integer.MAX_VALUE};
        for (int ago : wrong) {
            Check.due("22: wrong ago", board.power(ago), INVALID);
        }
        Check.due("22: no second yet", board.power(1), NONE);
        Check.due("22: none at all", board.power(20), NONE);
        board.setNumber(0, 5);
        board.show(0, 0);
        board.pass(3);
        int[] powers = {0, 4, 5, NONE, NONE};
        for (int ago = 1; ago <= powers.length; ago++) {
            Check.due("22: ago " + ago, board.power(ago), powers[ago - 1]);
        }
        board.undo();
        Check.due("22: undone", board.power(1), NONE);
    }

    private static void powerOfTwentySeconds() {
        Board board = Boards.withText(40, "a=7f7f7f7f7f; >aaaaaaaaaaaa;");
        board.setNumber(0, 50);
        board.show(0, 0);
        board.setNumber(0, 2);
        int[] used = new int[60];
        int all = 0;
        for (int second = 0; second < 60; second++) {
            int power = 2 + second % 7;
            board.setNumber(0, power);
            board.pass(1);
            // with one unit left ahead of the next column the last one is not used
            used[second] = board.count(Boards.POWER) - all;
            all += used[second];
            Board looking = board.again();
            for (int ago = 1; ago <= 20; ago++) {
                int want = ago <= second + 1 ? used[second + 1 - ago] : NONE;
                Check.due("22: of twenty", looking.power(ago), want);
            }
        }
        Check.due("22: the first second", used[0], 2);
        Check.due("22: the second second", used[1], 3);
    }

    private static void nothingChanges() {
        Board board = Boards.withText(8, "a=7f; >a; >aa;");
        board.jam(3, 0);
        board.show(0, 0);
        board.pass(1);
        Boards.type(board, "a=");
        String before = board.whole();
        for (int i = -1; i < 16; i++) {
            board.count(i);
            board.column(i, 0);
            board.flips(i, 1);
            board.letter(i, 0);
            board.message(i, 0);
            board.strip(i);
            board.picture(0, 1, i);
            board.power(i);
        }
        Check.same("15 to 22: looking changes nothing", board.whole(), before);
    }
}
