/** The edges that "Showing" names. */
final class ShowingTerms {
    private static final String SHOWING = "Showing";

    private ShowingTerms() {
    }

    static void test() {
        Document.test(SHOWING, "A dot is due if the aim tells another side than it shows",
            ShowingTerms::dueOnBothSides);
        Document.test(SHOWING, "and it is not known to be stuck", ShowingTerms::notDueIfKnown);
        Document.test(SHOWING, "To show a message means that the aim becomes its picture, as it is then",
            ShowingTerms::asItIsThen);
        Document.test(SHOWING, "it stays so, also if letters or messages change", ShowingTerms::staysSo);
        Document.test(SHOWING, "It can be shown with the shift 0, or with the best shift", ShowingTerms::bothWays);
        Document.test(SHOWING, "the best shift: of -2 to 2", ShowingTerms::noFartherThanTwo);
        Document.test(SHOWING, "that with the fewest dots that are known to be stuck on the other side than the"
            + " picture tells", ShowingTerms::fewestKnownDots);
        Document.test(SHOWING, "known to be stuck on the other side than the picture tells",
            ShowingTerms::knownDotsBesideTheStrip);
        Document.test(SHOWING, "known to be stuck on the other side than the picture tells",
            ShowingTerms::knownDotsAtTheEdges);
        Document.test(SHOWING, "of several that with the fewest due dots", ShowingTerms::fewestDueDots);
        Document.test(SHOWING, "of several the one nearest to 0", ShowingTerms::nearest);
        Document.test(SHOWING, "of two of these the negative one", ShowingTerms::negative);
    }

    private static void dueOnBothSides() {
        Board board = Boards.withText(6, "a=7f; >a;");
        Check.due("dark dots and a dark aim", board.count(Boards.DUE), 0);
        Check.due("dark dots and a bright aim", board.show(0, 0), 7);
        Check.due("bright dots and a bright aim", board.pass(1), 0);
        Check.due("bright dots and a dark aim", board.darken(), 7);
        Check.due("dark dots again", board.pass(1), 0);
    }

    private static void notDueIfKnown() {
        Board board = Boards.withText(6, "a=7f; >a;");
        board.jam(2, 0);
        Check.due("stuck, not known", board.show(0, 0), 7);
        Check.due("known", board.pass(1), 0);
        Check.due("though it shows another side", board.count(Boards.OTHER), 1);
        Check.due("on the aim's side and known", board.darken(), 6);
        Check.due("on the other side and known", board.show(0, 0), 0);
        board.mend(2, 0);
        Check.due("mended", board.count(Boards.DUE), 1);
    }

    private static void asItIsThen() {
        Board board = Boards.withText(6, "a=7f; >a;");
        board.show(0, 0);
        Edges.aims("one column", board, 0, 0, 127, 0, 0, 0);
        board.setColumn(0, 1, 3);
        board.show(0, 0);
        Edges.aims("two columns", board, 0, 0, 127, 3, 0, 0);
        board.setColumn(0, 0, 0);
        Check.due("as it is now", board.show(0, 0), 2);
        Edges.aims("the first one dark", board, 0, 0, 0, 3, 0, 0);
    }

    private static void staysSo() {
        Board board = Boards.withText(6, "a=7f; b=01; >a; >b;");
        board.show(0, 0);
        board.setColumn(0, 0, 1);
        Edges.aims("a column is set", board, 0, 0, 127, 0, 0, 0);
        board.setColumn(0, 1, 2);
        Edges.aims("a column is added", board, 0, 0, 127, 0, 0, 0);
        Boards.load(board, "a=02; >bb;");
        Edges.aims("a text is read", board, 0, 0, 127, 0, 0, 0);
        board.removeMessage(0);
        Edges.aims("the message is removed", board, 0, 0, 127, 0, 0, 0);
        board.addMessage(1, 1);
        board.setNumber(1, 2);
        Edges.aims("another one is added", board, 0, 0, 127, 0, 0, 0);
        Check.due("seconds pass", board.pass(1), 0);
        Edges.aims("it is reached", board, 0, 0, 127, 0, 0, 0);
    }

    private static void bothWays() {
        Board board = Boards.withText(6, "a=7f; b=7f00; >a; >b;");
        board.show(0, 0);
        board.pass(1);
        Check.due("shown at 2, the same place", board.show(1, 1), 0);
        board.setColumn(1, 0, 0);
        board.setColumn(1, 1, 127);
        Check.due("moved to the bright dots", board.show(1, 1), 0);
        Edges.aims("moved", board, 0, 0, 127, 0, 0, 0);
        Check.due("with the shift 0", board.show(1, 0), 14);
        Edges.aims("not moved", board, 0, 0, 0, 127, 0, 0);
    }

    /** Message 0 is one column at 4; the others show one so far beside it. */
    private static void noFartherThanTwo() {
        String[] messages = {"bqqqqqq", "bqqqq", "bqq", "b", "qqb", "qqqqb", "qqqqqqb"};
        int[] shifts = {0, -2, -1, 0, 1, 2, 0};
        for (int distance = -3; distance <= 3; distance++) {
            String message = messages[distance + 3];
            Board board = Boards.withText(9, "a=7f; b=7f; >a; >" + message + ";");
            board.show(1, 0);
            board.pass(1);
            Check.due("bright beside by " + distance, board.column(4 + distance, 0), 127);
            Check.due("best shift to " + distance, board.bestShift(0), shifts[distance + 3]);
            boolean isMet = distance != -3 && distance != 3;
            Check.due("due to " + distance, board.show(0, 1), isMet ? 0 : 14);
            Check.due("aim to " + distance, board.column(4 + shifts[distance + 3], 1), 127);
        }
    }

    /** Message 0 is one column at 3, message 1 all of the columns 1 to 5. */
    private static Board aroundThree() {
        return Boards.withText(8, "a=7f; e=7f7f7f7f7f; >a; >e;");
    }

    private static void jamAndFind(Board board, int... columns) {
        for (int column : columns) {
            int row = 0;
            while (board.jam(column, row) < 0) {
                row++;
            }
        }
        board.show(1, 0);
        board.pass(6);
        board.darken();
        board.pass(6);
    }

    private static void fewestKnownDots() {
        Board board = aroundThree();
        board.jam(3, 0);
        board.show(0, 0);
        Check.due("stuck, not known", board.bestShift(0), 0);
        board.pass(1);
        Check.due("known, though no dot is due in its place", board.due(0, 0), 0);
        Check.due("moved aside", board.bestShift(0), -1);
        Check.due("though thirteen dots are due there", board.due(0, 1), 13);
        Board several = aroundThree();
        jamAndFind(several, 1, 1, 2, 3, 3, 4, 4, 5, 5);
        Check.due("known dots", several.count(Boards.KNOWN), 9);
        Check.due("one is fewer than two", several.bestShift(0), -1);
        several.mend(5, 0);
        Check.due("of one and one the nearest", several.bestShift(0), -1);
        several.mend(5, 1);
        Check.due("none", several.bestShift(0), 2);
    }

    private static void knownDotsBesideTheStrip() {
        Board board = Boards.withText(8, "a=7f; b=01; c=7f0000; >a; >qqqqb; >c;");
        board.show(1, 0);
        board.pass(1);
        board.jam(5, 0);
        board.show(2, 0);
        board.pass(2);
        Check.due("bright and known", board.column(5, 3), 1);
        Check.due("all of message 0 is bright at -1", board.column(2, 0), 127);
        Check.due("the known dot is met with 2", board.bestShift(0), 2);
        Check.due("though thirteen are due there", board.due(0, 1), 6 + 7);
        board.mend(5, 0);
        Check.due("not stuck any more", board.bestShift(0), -1);
    }

    private static void knownDotsAtTheEdges() {
        for (int stuck = 0; stuck < 2; stuck++) {
            Board board = Boards.withText(6, "a=7f; b=7f; c=007f; e=7f00000000; >a; >e; >c; >qqqqqb;");
            if (stuck == 1) {
                board.jam(0, 0);
                board.jam(5, 6);
            }
            board.show(1, 0);
            board.pass(1);
            Check.due("towards column 0", board.bestShift(0), stuck == 1 ? 0 : -2);
            board.show(3, 0);
            board.pass(2);
            Check.due("towards column 5", board.bestShift(2), stuck == 1 ? 0 : 2);
        }
    }

    private static void fewestDueDots() {
        Board board = Boards.withText(8, "a=7f; c=0100004000; >a; >c;");
        board.show(1, 0);
        board.pass(1);
        Check.due("one dot each at -2 and 1, the nearer one", board.bestShift(0), 1);
        board.setColumn(2, 0, 3);
        board.show(1, 0);
        board.pass(1);
        Check.due("two dots at -2", board.bestShift(0), -2);
        Check.due("five and one are due there", board.due(0, 1), 6);
        Board known = aroundThree();
        jamAndFind(known, 1, 2, 3, 4, 5);
        Check.due("one known dot in each place", known.bestShift(0), 0);
        known.setColumn(4, 0, 0);
        known.setColumn(4, 1, 0);
        known.setColumn(4, 2, 0);
        known.setColumn(4, 3, 2);
        known.setColumn(4, 4, 6);
        known.show(1, 0);
        known.pass(1);
        Check.due("the fewest due ones at 2", known.bestShift(0), 2);
        Check.due("four of six", known.due(0, 1), 4 + 1);
    }

    /** Which of the columns 1 to 5 are bright, and the best shift of a column at 3. */
    private static void bestShiftWith(String columns, int shift) {
        Board board = Boards.withText(8, "a=7f; e=" + columns + "; >a; >e;");
        board.show(1, 0);
        board.pass(6);
        Check.due("best shift with " + columns, board.bestShift(0), shift);
    }

    private static void nearest() {
        bestShiftWith("0000000000", 0);
        bestShiftWith("7f7f7f7f7f", 0);
        bestShiftWith("7f7f007f7f", -1);
        bestShiftWith("7f00007f00", 1);
        bestShiftWith("007f00007f", -1);
        bestShiftWith("00007f007f", 0);
        bestShiftWith("7f007f0000", 0);
        bestShiftWith("7f7f000000", -1);
        bestShiftWith("0000007f7f", 1);
    }

    private static void negative() {
        bestShiftWith("007f007f00", -1);
        bestShiftWith("7f0000007f", -2);
        bestShiftWith("0001000100", -1);
        bestShiftWith("0100000001", -2);
        bestShiftWith("0001000300", 1);
        bestShiftWith("0100000003", 2);
    }
}
