/** Promises 23 to 28: bestShift, due, secondsFor, between, bestOrder, undo. */
public final class ForesightTest {
    private static final int INVALID = Boards.INVALID;
    private static final int ILLEGAL = Boards.ILLEGAL;
    private static final int NONE = Boards.NONE;

    public static void main(String[] args) {
        noMessages();
        bestShiftByDueDots();
        bestShiftByKnownDots();
        bestShiftAtTheEdge();
        bestShiftToABrightDot();
        due();
        secondsFor();
        secondsForWithStuckDots();
        secondsForWithTheShiftOfNow();
        secondsForManyDots();
        between();
        bestOrderArguments();
        bestOrder();
        bestOrderOfEqualOnes();
        bestOrderWithoutKnownDots();
        bestOrderOfFive();
        undoOfEveryCall();
        undoOfSix();
        undoBehindErrors();
        nothingChanges();
        Check.end();
    }

    private static void noMessages() {
        Board board = Boards.withText(8, "a=7f; >a; >a;");
        int[] wrong = {-1, 2, 8, Integer.MIN_VALUE, Integer.MAX_VALUE};
        for (int message : wrong) {
            Check.due("23: no message", board.bestShift(message), INVALID);
            Check.due("24: no message", board.due(message, 0), INVALID);
            Check.due("25: no message", board.secondsFor(message, 0), INVALID);
            Check.due("26: no a", board.between(message, 0), INVALID);
            Check.due("26: no b", board.between(0, message), INVALID);
        }
        int[] wrongHow = {-1, 2, Integer.MIN_VALUE, Integer.MAX_VALUE};
        for (int how : wrongHow) {
            Check.due("24: wrong how", board.due(0, how), INVALID);
            Check.due("25: wrong how", board.secondsFor(0, how), INVALID);
        }
    }

    /** A board of 8 columns that shows its second message; the first is one column, at 3. */
    private static Board showing(String secondLetter) {
        Board board = Boards.withText(8, "a=7f; b=" + secondLetter + "; >a; >b;");
        board.show(1, 0);
        board.pass(20);
        Check.due("all is shown", board.count(Boards.OTHER), 0);
        return board;
    }

    private static void bestShiftByDueDots() {
        Board board = Boards.withText(8, "a=7f; >a;");
        Check.due("23: all alike", board.bestShift(0), 0);
        Check.due("23: -2", showing("7f00000000").bestShift(0), -2);
        Check.due("23: -1", showing("7f0000").bestShift(0), -1);
        Check.due("23: 0", showing("7f").bestShift(0), 0);
        Check.due("23: 1", showing("00007f").bestShift(0), 1);
        Check.due("23: 2", showing("000000007f").bestShift(0), 2);
        Check.due("23: of -1 and 1 the negative one", showing("7f007f").bestShift(0), -1);
        Check.due("23: of -2 and 1 the nearer one", showing("7f00007f00").bestShift(0), 1);
        Check.due("23: of -2 and 2 the negative one", showing("7f0000007f").bestShift(0), -2);
        Check.due("23: beyond 2", showing("00000000").bestShift(0), 0);
        Check.due("23: the fewest due dots", showing("7e007f").bestShift(0), 1);
        Check.due("23: its own picture", showing("7f007f").bestShift(1), 0);
    }

    private static void bestShiftByKnownDots() {
        Board board = Boards.withText(8, "a=7f; b=7f; >a; >b;");
        board.jam(3, 0);
        Check.due("23: not known, does not count", board.bestShift(0), 0);
        board.show(0, 0);
        board.pass(2);
        // moved aside there are 13 due dots, in place there is none
        Check.due("23: known dots before due dots", board.bestShift(0), -1);
        board.jam(2, 0);
        Check.due("23: another one, not known", board.bestShift(0), -1);
        board.show(0, 1);
        board.pass(4);
        Check.due("23: both known", board.bestShift(0), 1);
        board.show(0, 0);
        board.pass(4);
        board.setNumber(2, 1);
        board.mend(3, 0);
        board.show(0, 0);
        board.pass(4);
        Check.due("23: bright and stuck, not known", board.column(3, 2), 1);
        board.darken();
        board.pass(4);
        Check.due("23: known to be bright", board.column(3, 3) & 1, 1);
        Check.due("23: the bright dot is met in place", board.bestShift(0), 0);
    }

    private static void bestShiftAtTheEdge() {
        Board board = Boards.withText(6, "a=7f; b=7f00000000; >a; >b;");
        board.jam(0, 0);
        board.show(1, 0);
        board.pass(1);
        Check.due("23: known at the left edge", board.column(0, 3), 1);
        Check.due("23: then -2 has no due dot, but a known one", board.bestShift(0), 0);
        board.mend(0, 0);
        Check.due("23: mended", board.bestShift(0), -2);
    }

    private static void bestShiftToABrightDot() {
        Board board = Boards.withText(8, "a=7f; b=7f0100; >a; >b;");
        board.show(1, 0);
        board.pass(9);
        board.jam(3, 0);
        board.darken();
        board.pass(9);
        Check.due("23: a bright dot is known", board.column(3, 3), 1);
        board.show(1, 0);
        board.pass(9);
        Check.due("23: it draws the picture to it", board.bestShift(0), 0);
        Check.due("23: away from the fewest due dots", board.due(0, 1), 7 + 6);
    }

    private static void due() {
        Board board = showing("7f0000");
        Check.due("24: how 0", board.due(0, 0), 14);
        Check.due("24: how 1", board.due(0, 1), 0);
        Check.due("24: what is shown", board.due(1, 0), 0);
        board.show(0, 0);
        Check.due("24: the aim does not matter", board.due(1, 0), 0);
        board.jam(3, 6);
        Check.due("24: a stuck dot that is not known", board.due(0, 0), 14);
        board.pass(9);
        board.darken();
        Check.due("24: known to be stuck", board.due(0, 0), 0);
        Check.due("24: round it", board.due(0, 1), 7 + 6);
        Check.due("24: then", board.show(0, 1), 7 + 6);
    }

    private static void secondsFor() {
        Board board = Boards.withText(8, "a=7f; b=03; >a; >b; >q;");
        board.setNumber(0, 4);
        Check.due("25: 3, 3 and 1", board.secondsFor(0, 0), 3);
        Check.due("25: in one", board.secondsFor(1, 0), 1);
        Check.due("25: nothing to do", board.secondsFor(2, 0), 0);
        board.show(0, 0);
        Check.due("25: nothing, whatever the aim is", board.secondsFor(2, 1), 0);
        board.pass(1);
        Check.due("25: 3 and 1", board.secondsFor(0, 0), 2);
        Check.due("25: back", board.secondsFor(2, 0), 1);
        board.pass(2);
        Check.due("25: shown", board.secondsFor(0, 0), 0);
        Check.due("25: five back", board.secondsFor(1, 0), 2);
        board.setNumber(0, 8);
        Check.due("25: with more power", board.secondsFor(1, 0), 1);
        String before = board.whole();
        board.secondsFor(1, 1);
        Check.same("25: nothing changes", board.whole(), before);
    }

    private static void secondsForWithStuckDots() {
        Board board = Boards.withText(8, "a=7f; >a; >q;");
        board.setNumber(0, 4);
        board.setNumber(2, 1);
        board.jam(3, 0);
        Check.due("25: a stuck dot is tried", board.secondsFor(0, 0), 3);
        board.show(0, 0);
        board.pass(1);
        board.darken();
        // row 0 is known now, rows 1 and 2 are bright and stuck
        Check.due("25: without the known one", board.secondsFor(0, 0), 2);
        Check.due("25: lives that ended are tried", board.secondsFor(1, 0), 1);
        board.pass(1);
        Check.due("25: in vain", board.column(3, 0), 6);
        Check.due("25: nothing more to try", board.secondsFor(1, 0), 0);
        Check.due("25: the rest", board.secondsFor(0, 0), 2);
    }

    private static void secondsForWithTheShiftOfNow() {
        Board board = Boards.withText(8, "a=7f; >a;");
        board.setNumber(0, 2);
        board.jam(3, 0);
        // the first second finds the dot; another shift would then be better, and take longer
        Check.due("25: how 1", board.secondsFor(0, 1), 7);
        board.show(0, 0);
        board.pass(1);
        Check.due("25: moved aside", board.secondsFor(0, 1), 7);
        Check.due("25: in place", board.secondsFor(0, 0), 6);
        board.pass(3);
        Check.due("25: three to darken", board.secondsFor(0, 1), 10);
        Check.due("25: three more in place", board.secondsFor(0, 0), 3);
    }

    private static void secondsForManyDots() {
        Board board = Boards.withText(40, "a=7f7f7f7f7f; >aaaaaaaaaaaa; >q;");
        board.setNumber(0, 2);
        for (int order = 0; order < 3; order++) {
            board.setNumber(1, order);
            Check.due("25: one dot a second", board.secondsFor(0, 0), 238);
        }
        board.setNumber(0, 50);
        board.show(0, 0);
        board.pass(20);
        board.setNumber(0, 2);
        Check.due("25: back one by one", board.secondsFor(1, 0), 238);
    }

    private static void between() {
        Board board = Boards.withText(8, "a=7f; b=03; d=030c; >a; >b; >d; >q; >aa;");
        Check.due("26: a and b", board.between(0, 1), 5);
        Check.due("26: b and a", board.between(1, 0), 5);
        Check.due("26: a and a", board.between(0, 0), 0);
        Check.due("26: a and d", board.between(0, 2), 5 + 2);
        Check.due("26: a and nothing", board.between(0, 3), 7);
        // aa begins at 2: columns 2 and 4
        Check.due("26: a and aa", board.between(0, 4), 21);
        board.jam(3, 5);
        Check.due("26: a stuck dot that is not known", board.between(0, 1), 5);
        board.show(0, 0);
        board.pass(2);
        Check.due("26: known", board.between(0, 1), 4);
        Check.due("26: known, the other way", board.between(1, 0), 4);
        Check.due("26: where they are alike", board.between(1, 3), 2);
        board.mend(3, 5);
        Check.due("26: mended", board.between(0, 1), 5);
    }

    private static void bestOrderArguments() {
        Board board = new Board();
        Check.due("27: no messages", board.bestOrder(1, 0), INVALID);
        Boards.load(board, ">a;>a;>a;>a;>a;>a;>a;");
        int[] wrong = {0, -1, 128, 129, 63, 127, 1 << 30, Integer.MIN_VALUE, Integer.MAX_VALUE};
        for (int messages : wrong) {
            Check.due("27: no such set " + messages, board.bestOrder(messages, 0), INVALID);
            Check.due("27: whatever is asked", board.bestOrder(messages, 5), INVALID);
        }
        int[] wrongWhat = {-1, 6, Integer.MIN_VALUE, Integer.MAX_VALUE};
        for (int what : wrongWhat) {
            Check.due("27: wrong what", board.bestOrder(1, what), INVALID);
        }
        Check.due("27: the first alone", board.bestOrder(1, 1), 0);
        Check.due("27: no flips", board.bestOrder(1, 0), 0);
        Check.due("27: one", board.bestOrder(64, 1), 6);
        Check.due("27: no second", board.bestOrder(64, 2), NONE);
        Check.due("27: no fifth", board.bestOrder(15, 5), NONE);
        Check.due("27: five", board.bestOrder(124, 5), 6);
        Boards.load(board, ">b;");
        Check.due("27: the eighth message", board.bestOrder(128, 1), 7);
        Check.due("27: beyond the eighth", board.bestOrder(256, 0), INVALID);
    }

    private static void orderIs(Board board, int messages, int flips, int... order) {
        Check.due("27: flips", board.bestOrder(messages, 0), flips);
        for (int place = 0; place < order.length; place++) {
            Check.due("27: place " + place, board.bestOrder(messages, place + 1), order[place]);
        }
        if (order.length < 5) {
            Check.due("27: no more", board.bestOrder(messages, order.length + 1), NONE);
        }
    }

    private static void bestOrder() {
        Board board = Boards.withText(6, "a=7f; b=01; c=1f; d=07; >a; >b; >c; >d;");
        // from dark: 1, then 2, 2, 2
        orderIs(board, 15, 7, 1, 3, 2, 0);
        orderIs(board, 5, 7, 2, 0);
        orderIs(board, 8, 3, 3);
        board.show(0, 0);
        orderIs(board, 10, 3, 1, 3);
        board.pass(2);
        orderIs(board, 15, 6, 0, 2, 3, 1);
        orderIs(board, 10, 6, 3, 1);
    }

    private static void bestOrderOfEqualOnes() {
        Board board = Boards.withText(6, "a=01; b=02; c=04; d=08; e=10; >a; >b; >c; >d; >e;");
        // each step costs 2 flips, whichever way it goes
        orderIs(board, 31, 9, 0, 1, 2, 3, 4);
        orderIs(board, 26, 5, 1, 3, 4);
        board.show(3, 0);
        board.pass(1);
        orderIs(board, 31, 8, 3, 0, 1, 2, 4);
        orderIs(board, 23, 8, 0, 1, 2, 4);
        Boards.load(board, ">a;");
        orderIs(board, 33, 2, 0, 5);
    }

    private static void bestOrderWithoutKnownDots() {
        Board board = Boards.withText(6, "a=70; b=03; >a; >b;");
        orderIs(board, 3, 2 + 5, 1, 0);
        board.jam(2, 4);
        board.jam(2, 5);
        orderIs(board, 3, 2 + 5, 1, 0);
        board.show(0, 0);
        board.pass(1);
        board.darken();
        board.pass(1);
        orderIs(board, 3, 1 + 3, 0, 1);
    }

    private static void bestOrderOfFive() {
        Board board = Boards.withText(6,
            "a=7f; b=01; c=3f; d=03; e=0f; f=07; g=1f; h=00; >a; >b; >c; >d; >e; >f; >g; >h;");
        orderIs(board, 0x5e, 6, 1, 3, 4, 6, 2);
        orderIs(board, 0xe3, 7, 7, 1, 5, 6, 0);
        orderIs(board, 0x80, 0, 7);
        board.show(0, 0);
        board.pass(2);
        orderIs(board, 0xe3, 7, 0, 6, 5, 1, 7);
        orderIs(board, 0x3e, 6, 2, 4, 5, 3, 1);
    }

    private static void undoOfEveryCall() {
        Board board = Boards.withText(8, "a=7f; >a; >aa;");
        board.setNumber(2, 2);
        board.jam(3, 0);
        board.show(0, 0);
        board.pass(1);
        for (int call = 0; call < 11; call++) {
            String before = board.look();
            int saved = board.count(Boards.SAVED);
            Check.that("28: call " + call, change(board, call) >= 0);
            Check.due("28: saved by " + call, board.count(Boards.SAVED), Math.min(saved + 1, 6));
            Check.that("28: changed by " + call, !board.look().equals(before));
            Check.due("28: undo of " + call, board.undo(), Math.min(saved, 5));
            Check.same("28: restored from " + call, board.look(), before);
            change(board, call);
        }
        Check.due("28: six", board.count(Boards.SAVED), 6);
        for (int left = 5; left >= 0; left--) {
            Check.due("28: left", board.undo(), left);
        }
        Check.due("28: none", board.undo(), ILLEGAL);
        Check.due("28: none again", board.undo(), ILLEGAL);
        Check.due("28: none saved", board.count(Boards.SAVED), 0);
    }

    private static int change(Board board, int call) {
        switch (call) {
            case 0: return board.setNumber(0, 7);
            case 1: return board.setColumn(1, 0, 99);
            case 2: return Boards.load(board, "c=01; >abc;");
            case 3: return board.addMessage(0, 26);
            case 4: return board.removeMessage(0);
            case 5: return board.show(0, 1);
            case 6: return board.jam(7, 6);
            case 7: return board.mend(3, 0);
            case 8: return board.pass(3);
            case 9: return board.darken();
            default: return board.begin(9);
        }
    }

    private static void undoOfSix() {
        Board board = new Board();
        String[] looks = new String[20];
        for (int step = 0; step < 15; step++) {
            looks[step] = board.look();
            board.setColumn(step, 0, step + 1);
            Check.due("28: at most six", board.count(Boards.SAVED), Math.min(step + 1, 6));
        }
        for (int step = 14; step >= 12; step--) {
            board.undo();
            Check.same("28: the last ones", board.look(), looks[step]);
        }
        for (int step = 12; step < 14; step++) {
            looks[step] = board.look();
            board.setNumber(0, step);
        }
        for (int step = 13; step >= 9; step--) {
            Check.due("28: left", board.undo(), step - 9);
            Check.same("28: the older ones", board.look(), looks[step]);
        }
        Check.due("28: the seventh is gone", board.undo(), ILLEGAL);
        Check.same("28: nothing changes then", board.look(), looks[9]);
    }

    private static void undoBehindErrors() {
        Board board = Boards.withText(8, "a=7f; >a;");
        Boards.type(board, "b=0");
        String before = board.whole();
        board.begin(41);
        board.setNumber(0, 51);
        board.setColumn(0, 2, 0);
        board.addMessage(27, 0);
        board.removeMessage(1);
        board.appendCharacter(256);
        board.load();
        board.show(1, 0);
        board.jam(8, 0);
        board.mend(0, 7);
        board.pass(0);
        Check.same("28: an error changes and saves nothing", board.whole(), before);
        board.appendCharacter('1');
        board.clearText();
        Boards.type(board, "xyz");
        Check.due("28: the text's calls save nothing", board.count(Boards.SAVED), 2);
        Check.due("28: undo", board.undo(), 1);
        Check.due("28: the text stays", board.count(Boards.TEXT), 3);
        Check.due("28: the letter is gone", board.letter(0, 0), NONE);
        Check.due("28: undo of begin", board.undo(), 0);
        Check.due("28: width", board.count(Boards.WIDTH), 20);
    }

    private static void nothingChanges() {
        Board board = Boards.withText(8, "a=7f; b=01; >a; >aa; >b;");
        board.jam(3, 0);
        board.show(0, 0);
        board.pass(1);
        Boards.type(board, "a=");
        String before = board.whole();
        for (int i = -1; i < 9; i++) {
            board.bestShift(i);
            board.due(i, 1);
            board.secondsFor(i, 1);
            board.secondsFor(i, 0);
            board.between(i, 0);
            board.bestOrder(i, 0);
            board.bestOrder(7, i);
        }
        Check.same("23 to 27: nothing changes", board.whole(), before);
    }
}
