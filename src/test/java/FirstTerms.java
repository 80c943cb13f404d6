/** What the document says of the whole: "What it is" and the words ahead of "Board". */
final class FirstTerms {
    private static final String WHAT = "What it is";
    private static final String TERMS = "Terms";

    private FirstTerms() {
    }

    static void test() {
        Document.test(WHAT, "pictures by letters whose columns are told", FirstTerms::pictures);
        Document.test(WHAT, "flips that are made column by column within the power of each second", FirstTerms::flips);
        Document.test(WHAT, "dots that stick and are found by trying", FirstTerms::sticking);
        Document.test(WHAT, "pictures that are moved aside to work round them", FirstTerms::movedAside);
        Document.test(WHAT, "counts of flips and of power", FirstTerms::counts);
        Document.test(WHAT, "orders of messages with the fewest flips", FirstTerms::orders);
        Document.test(WHAT, "An object is used for at most 512 calls after it has been made",
            FirstTerms::lastCall);
        Document.test(WHAT, "what later calls answer is free", FirstTerms::behindTheLast);
        Document.test(TERMS, "All numbers are whole", FirstTerms::whole);
        Document.test(TERMS, "\"/\" is the division rounded down", FirstTerms::roundedDown);
    }

    /** Columns 0x7f and 0x08, a dark one and a gap of two: six columns of six. */
    private static Board story() {
        return Boards.withText(6, "a=7f08; b=08; >a_; >b; >a;");
    }

    private static void pictures() {
        Board board = story();
        board.show(0, 0);
        Edges.aims("a and a gap", board, 0x7f, 0x08, 0, 0, 0, 0);
    }

    private static void flips() {
        Board board = story();
        board.setNumber(0, 5);
        Check.due("show", board.show(0, 0), 8);
        Check.due("a second: the column and four dots", board.pass(1), 4);
        Edges.shows("behind a second", board, 0x0f, 0);
        Check.due("the column again, three dots; 1 unit is left ahead of the next", board.pass(1), 1);
        Edges.shows("behind two seconds", board, 0x7f, 0);
        Check.due("the last dot", board.pass(1), 0);
        Edges.shows("behind three seconds", board, 0x7f, 0x08);
    }

    private static Board tried() {
        Board board = story();
        board.jam(0, 6);
        board.show(0, 0);
        Check.due("not known", board.count(Boards.KNOWN), 0);
        Check.due("seven flips and a try, 10 units", board.pass(1), 0);
        return board;
    }

    private static void sticking() {
        Board board = tried();
        Check.due("found", board.column(0, 3), 0x40);
        Edges.shows("all but the dot that sticks", board, 0x3f, 0x08);
    }

    private static void movedAside() {
        Board board = tried();
        // moved by -1, its second column 0x08 stands where the dot in row 6 sticks on the dark side
        Check.due("the best shift of a", board.bestShift(0), -1);
        Check.due("a, moved to the left, five dots in column 0 and one in column 1", board.show(0, 1), 6);
        Edges.aims("a, moved", board, 0x08, 0, 0, 0, 0, 0);
    }

    private static void counts() {
        Board board = tried();
        Check.due("flips", board.count(Boards.FLIPS), 7);
        Check.due("power: two columns, eight dots", board.count(Boards.POWER), 10);
    }

    private static void orders() {
        Board board = story();
        // b stands in column 2, a in columns 2 and 3; from the dark board b, then a: 1 and 7 flips
        Check.due("flips", board.bestOrder(6, 0), 8);
        Check.due("first", board.bestOrder(6, 1), 1);
        Check.due("second", board.bestOrder(6, 2), 2);
    }

    private static void lastCall() {
        Board board = new Board();
        for (int call = 1; call < Board.MOST_CALLS; call++) {
            Check.due("call " + call, board.begin(6 + call % 35), call == 1 ? 20 : 6 + (call - 1) % 35);
        }
        Check.due("calls made", board.calls(), Board.MOST_CALLS - 1);
        Check.due("the 512th call", board.count(Boards.SAVED), 6);
    }

    private static void behindTheLast() {
        Board board = Board.withoutEnd();
        int ended = 0;
        for (int call = 1; call <= 3 * Board.MOST_CALLS; call++) {
            board.call(Calls.BEGIN + call % (Calls.UNDO - Calls.BEGIN + 1), 6 + call % 3, 0, 0);
            ended++;
        }
        Check.due("they end, all the same", ended, 3 * Board.MOST_CALLS);
    }

    private static void whole() {
        Check.due("3 of 20 columns, from column 8 on", Boards.withText(20, "a=010203; >a;").picture(0, 0, 8), 1);
        Board board = Boards.withText(6, "a=7f; >a;");
        board.setNumber(0, 3);
        Check.due("7 dots, 2 a second", board.secondsFor(0, 0), 4);
    }

    private static void roundedDown() {
        String[] texts = {"a=01; >a;", "a=0101; >a;", "a=010101; >a;", "a=01010101; >a;", "a=0101010101; >a;"};
        int[] starts = {3, 2, 2, 1, 1};
        for (int i = 0; i < texts.length; i++) {
            Board board = Boards.withText(7, texts[i]);
            Check.due("the first column of " + texts[i], board.picture(0, 0, starts[i]), 1);
            Check.due("ahead of it", board.picture(0, 0, starts[i] - 1), 0);
        }
    }
}
