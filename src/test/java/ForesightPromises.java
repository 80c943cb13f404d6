/** Promises 23 to 26 and 28: bestShift, due, secondsFor, between, undo. */
final class ForesightPromises {
    private ForesightPromises() {
    }

    static void test() {
        Document.test("Promise 23", "Returns the best shift of a message", ForesightPromises::bestShiftReturns);
        Document.test("Promise 23", "`message`: a message", ForesightPromises::bestShiftMessage);
        Document.test("Promise 23", "Returns the shift, -2 to 2", ForesightPromises::bestShiftEnds);
        Document.test("Promise 23", "INVALID_ARGUMENT if there is no such message",
            ForesightPromises::bestShiftRefused);
        Document.test("Promise 24", "Counts the dots that would be due if a message was shown",
            ForesightPromises::dueCounts);
        Document.test("Promise 24", "`message`: a message", ForesightPromises::dueMessage);
        Document.test("Promise 24", "`how`: as for show()", ForesightPromises::dueHow);
        Document.test("Promise 24", "Returns their number", ForesightPromises::dueReturns);
        Document.test("Promise 24", "INVALID_ARGUMENT if an argument is out of range",
            ForesightPromises::dueRefused);
        Document.test("Promise 25", "Tells after how many seconds no dot would be due any more if a message was"
            + " shown now", ForesightPromises::secondsForTells);
        Document.test("Promise 25", "`message`: a message", ForesightPromises::secondsForMessage);
        Document.test("Promise 25", "`how`: as for show()", ForesightPromises::secondsForHow);
        Document.test("Promise 25", "Returns the number, from 0", ForesightPromises::secondsForNothing);
        Document.test("Promise 25", "(as in pass(), with the shift that is the best one now",
            ForesightPromises::secondsForShiftOfNow);
        Document.test("Promise 25", "dots that are not known to be stuck are tried, lives end)",
            ForesightPromises::secondsForStuckDots);
        Document.test("Promise 25", "INVALID_ARGUMENT if an argument is out of range",
            ForesightPromises::secondsForRefused);
        Document.test("Promise 25", "NONE if that is not so behind 300 seconds", ForesightPromises::secondsForMost);
        Document.test("Promise 26", "Counts the dots that differ between the pictures of two messages with the"
            + " shift 0", ForesightPromises::betweenCounts);
        Document.test("Promise 26", "without those that are known to be stuck", ForesightPromises::betweenKnown);
        Document.test("Promise 26", "`a`: a message", ForesightPromises::betweenA);
        Document.test("Promise 26", "`b`: a message", ForesightPromises::betweenB);
        Document.test("Promise 26", "Returns their number", ForesightPromises::betweenReturns);
        Document.test("Promise 26", "INVALID_ARGUMENT if there is no such message",
            ForesightPromises::betweenRefused);
        Document.test("Promise 28", "Restores the most recently saved state and discards it",
            ForesightPromises::undoes);
        Document.test("Promise 28", "Returns the number of states that are still saved",
            ForesightPromises::undoReturns);
        Document.test("Promise 28", "ILLEGAL_STATE if there is none", ForesightPromises::undoRefused);
    }

    private static void bestShiftReturns() {
        Board board = Boards.withText(8, "a=7f; b=7f0000; >a; >b;");
        Check.due("all alike", board.bestShift(0), 0);
        board.show(1, 0);
        Check.due("the aim does not count", board.bestShift(0), 0);
        board.pass(1);
        Check.due("what is shown does", board.bestShift(0), -1);
        Check.due("its own place", board.bestShift(1), 0);
        Check.due("a strip without columns", Boards.withText(6, ">q;").bestShift(0), 0);
    }

    private static void bestShiftMessage() {
        Edges.range(Edges.busy(), 0, 1, 2, 0, Board::bestShift);
        Board eight = Boards.withText(6, ">a;>b;>c;>d;>e;>f;>g;>h;");
        Edges.range(eight, 0, 0, 7, 0, Board::bestShift);
    }

    private static void bestShiftEnds() {
        String[] columns = {"7f00000000", "007f000000", "00007f0000", "0000007f00", "000000007f"};
        for (int shift = -2; shift <= 2; shift++) {
            Board board = Boards.withText(8, "a=7f; e=" + columns[shift + 2] + "; >a; >e;");
            board.show(1, 0);
            board.pass(1);
            Check.due("shift", board.bestShift(0), shift);
        }
    }

    private static void bestShiftRefused() {
        Edges.refused(new Board(), Edges.INVALID, "no message", b -> b.bestShift(0));
        Edges.refused(Edges.busy(), Edges.INVALID, "bestShift(3)", b -> b.bestShift(3));
        Edges.refused(Edges.busy(), Edges.INVALID, "bestShift(-1)", b -> b.bestShift(-1));
    }

    private static void dueCounts() {
        Board board = Edges.busy();
        for (int message = 0; message < 3; message++) {
            for (int how = 0; how < 2; how++) {
                int due = board.due(message, how);
                Check.due("then shown", board.again().show(message, how), due);
            }
        }
        Board aims = Boards.withText(6, "a=7f; b=01; >a; >b;");
        aims.show(0, 0);
        Check.due("the aim does not count", aims.due(1, 0), 1);
        Check.due("the aim's own message", aims.due(0, 0), 7);
        Check.due("the aim stays", aims.count(Boards.DUE), 7);
    }

    private static void dueMessage() {
        Edges.range(Edges.busy(), 0, 5, 2, 5, (board, message) -> board.due(message, 0));
    }

    private static void dueHow() {
        Board board = Boards.withText(8, "a=7f; >a;");
        board.jam(3, 0);
        board.show(0, 0);
        board.pass(1);
        Edges.range(board, 0, 0, 1, 13, (b, how) -> b.due(0, how));
    }

    private static void dueReturns() {
        Board board = Boards.withText(40, "e=7f7f7f7f7f; >eeeeeeeeeeee; >q;");
        Check.due("none", board.due(1, 0), 0);
        Check.due("most", board.due(0, 0), 238);
        board.setNumber(0, 50);
        board.show(0, 0);
        board.pass(9);
        Check.due("none any more", board.due(0, 0), 0);
        Check.due("all back", board.due(1, 1), 238);
    }

    private static void dueRefused() {
        Board board = Edges.busy();
        Edges.refused(board, Edges.INVALID, "due(3, 0)", b -> b.due(3, 0));
        Edges.refused(board, Edges.INVALID, "due(-1, 1)", b -> b.due(-1, 1));
        Edges.refused(board, Edges.INVALID, "due(0, 2)", b -> b.due(0, 2));
        Edges.refused(board, Edges.INVALID, "due(0, -1)", b -> b.due(0, -1));
        Edges.refused(new Board(), Edges.INVALID, "no message", b -> b.due(0, 0));
    }

    /** Passes second by second until no dot is due. */
    private static int secondsOf(Board made, int message, int how) {
        Board board = made.again();
        int due = board.show(message, how);
        int seconds = 0;
        while (due > 0) {
            due = board.pass(1);
            seconds++;
        }
        return seconds;
    }

    private static void secondsForTells() {
        for (int order = 0; order < 3; order++) {
            for (int power = 2; power <= 12; power += 5) {
                Board board = Boards.withText(9, "a=7f09; b=55; e=1f00010307; >a; >ba; >e_; >eee;");
                board.setNumber(0, power);
                board.setNumber(1, order);
                board.jam(4, 1);
                board.show(1, 0);
                board.pass(2);
                for (int message = 0; message < 4; message++) {
                    for (int how = 0; how < 2; how++) {
                        int want = secondsOf(board, message, how);
                        Check.due("as many as pass", board.secondsFor(message, how), want);
                    }
                }
            }
        }
    }

    private static void secondsForMessage() {
        Edges.range(Edges.busy(), 0, 2, 2, 2, (board, message) -> board.secondsFor(message, 0));
    }

    private static void secondsForHow() {
        Board board = Boards.withText(8, "a=7f; >a;");
        board.jam(3, 0);
        board.show(0, 0);
        board.pass(1);
        Edges.range(board, 0, 0, 1, 2, (b, how) -> b.secondsFor(0, how));
    }

    private static void secondsForNothing() {
        Board board = Boards.withText(6, "a=7f; >a; >q;");
        Check.due("nothing to flip", board.secondsFor(1, 0), 0);
        Check.due("one", board.secondsFor(0, 0), 1);
        board.show(0, 0);
        Check.due("whatever is due now", board.secondsFor(1, 0), 0);
        board.pass(1);
        Check.due("shown already", board.secondsFor(0, 0), 0);
        board.setNumber(2, 1);
        board.darken();
        board.pass(1);
        board.show(0, 0);
        board.pass(1);
        Check.due("all known", board.secondsFor(0, 0), 0);
        board.setNumber(0, 8);
        Board exact = Boards.withText(6, "a=7f; >a;");
        exact.setNumber(0, 8);
        Check.due("just enough units", exact.secondsFor(0, 0), 1);
        exact.setNumber(0, 7);
        Check.due("one unit less", exact.secondsFor(0, 0), 2);
    }

    private static void secondsForShiftOfNow() {
        Board board = Boards.withText(8, "a=7f; >a;");
        board.setNumber(0, 2);
        board.jam(3, 0);
        Check.due("now 0 is the best one", board.bestShift(0), 0);
        Check.due("it stays, though a stuck dot is found", board.secondsFor(0, 1), 7);
        board.show(0, 1);
        board.pass(1);
        Check.due("then -1 is the best one", board.bestShift(0), -1);
        Check.due("in the place that was chosen", board.secondsFor(0, 0), 6);
        Check.due("in the place that would be chosen", board.secondsFor(0, 1), 7);
    }

    private static void secondsForStuckDots() {
        Board board = Boards.withText(6, "a=7f; >a; >q;");
        board.setNumber(0, 2);
        board.jam(2, 0);
        board.jam(2, 6);
        Check.due("stuck ones are tried", board.secondsFor(0, 0), 7);
        board.show(0, 0);
        board.pass(1);
        Check.due("not the one that is known", board.secondsFor(0, 0), 6);
        Check.due("it is not known by that", board.count(Boards.KNOWN), 1);
        board.setNumber(2, 1);
        Check.due("lives that end take no second", board.secondsFor(0, 0), 6);
        board.pass(6);
        Check.due("lives have ended", board.count(Boards.STUCK), 7);
        Check.due("all of them are tried once", board.secondsFor(1, 0), 5);
    }

    private static void secondsForRefused() {
        Board board = Edges.busy();
        Edges.refused(board, Edges.INVALID, "secondsFor(3, 0)", b -> b.secondsFor(3, 0));
        Edges.refused(board, Edges.INVALID, "secondsFor(-1, 1)", b -> b.secondsFor(-1, 1));
        Edges.refused(board, Edges.INVALID, "secondsFor(0, 2)", b -> b.secondsFor(0, 2));
        Edges.refused(board, Edges.INVALID, "secondsFor(0, -1)", b -> b.secondsFor(0, -1));
        Edges.refused(new Board(), Edges.INVALID, "no message", b -> b.secondsFor(0, 0));
    }

    /**
     * Each second with due dots ends with one less, at least, and a board has 280 dots: NONE can't come.
     * Here all 280 are due, one in a second.
     */
    private static void secondsForMost() {
        Board board = Boards.withText(40, "e=7f7f7f7f7f; >eeeeeeeeeeee; >qeeeeeee; >q;");
        board.setNumber(0, 50);
        board.setNumber(2, 1);
        board.show(0, 0);
        board.pass(9);
        Check.due("34 columns are bright and stuck", board.count(Boards.STUCK), 238);
        board.show(1, 0);
        board.pass(9);
        for (int column = 0; column < 40; column++) {
            for (int row = 0; row < 7 && column % 6 == 0; row++) {
                Check.due("found stuck, mended", board.mend(column, row), 1);
            }
        }
        Check.due("none is known", board.count(Boards.KNOWN), 0);
        Check.due("all 280 would be due", board.due(2, 0), 280);
        board.setNumber(0, 2);
        for (int order = 0; order < 3; order++) {
            board.setNumber(1, order);
            Check.due("one in a second", board.secondsFor(2, 0), 280);
        }
        board.show(2, 0);
        Check.due("200 seconds", board.pass(200), 80);
        Check.due("280 seconds", board.pass(80), 0);
    }

    private static void betweenCounts() {
        Board board = Boards.withText(6, "a=7f; b=0102030405; >a; >b; >bb; >q; >_;");
        Check.due("one column and five", board.between(0, 1), 1 + 1 + 5 + 1 + 2);
        Check.due("the other way", board.between(1, 0), 10);
        Check.due("a strip that is too long", board.between(1, 2), 0);
        Check.due("nothing and a gap", board.between(3, 4), 0);
        Check.due("nothing and one column", board.between(0, 3), 7);
        board.show(0, 0);
        board.pass(1);
        Check.due("whatever is shown", board.between(0, 1), 10);
        board.begin(40);
        Check.due("on a wide board", board.between(1, 2), 1 + 1 + 2 + 2 + 3 + 2 + 2 + 3 + 2 + 1 + 2);
    }

    private static void betweenKnown() {
        Board board = Boards.withText(6, "a=7f; b=03; >a; >b; >q;");
        board.jam(2, 0);
        board.jam(2, 6);
        Check.due("stuck, not known", board.between(0, 1), 5);
        board.show(0, 0);
        board.pass(1);
        Check.due("one of the five is known", board.between(0, 1), 4);
        Check.due("the other way", board.between(1, 0), 4);
        Check.due("one of two", board.between(1, 2), 1);
        Check.due("two of seven", board.between(0, 2), 5);
        board.mend(2, 6);
        Check.due("mended", board.between(0, 1), 5);
    }

    private static void betweenA() {
        Edges.range(Edges.busy(), 0, 10, 2, 0, (board, a) -> board.between(a, 2));
    }

    private static void betweenB() {
        Edges.range(Edges.busy(), 0, 0, 2, 10, (board, b) -> board.between(0, b));
    }

    private static void betweenReturns() {
        Board board = Boards.withText(40, "e=7f7f7f7f7f; >eeeeeeeeeeee; >q;");
        Check.due("none", board.between(0, 0), 0);
        Check.due("none, of nothing", board.between(1, 1), 0);
        Check.due("most", board.between(0, 1), 238);
    }

    private static void betweenRefused() {
        Board board = Edges.busy();
        Edges.refused(board, Edges.INVALID, "between(3, 0)", b -> b.between(3, 0));
        Edges.refused(board, Edges.INVALID, "between(0, 3)", b -> b.between(0, 3));
        Edges.refused(board, Edges.INVALID, "between(-1, 0)", b -> b.between(-1, 0));
        Edges.refused(board, Edges.INVALID, "between(0, -1)", b -> b.between(0, -1));
        Edges.refused(board, Edges.INVALID, "between(3, 3)", b -> b.between(3, 3));
        Edges.refused(new Board(), Edges.INVALID, "no message", b -> b.between(0, 0));
    }

    private static void undoes() {
        Board board = new Board();
        board.begin(6);
        board.begin(7);
        board.undo();
        Check.due("the last one", board.count(Boards.WIDTH), 6);
        board.undo();
        Check.due("the one ahead", board.count(Boards.WIDTH), 20);
        board.begin(8);
        board.undo();
        Check.due("not one that was discarded", board.count(Boards.WIDTH), 20);
    }

    private static void undoReturns() {
        for (int calls = 1; calls <= 8; calls++) {
            Board board = new Board();
            for (int call = 0; call < calls; call++) {
                board.darken();
            }
            for (int left = Math.min(calls, 6) - 1; left >= 0; left--) {
                Check.due("still saved", board.undo(), left);
            }
            Check.due("none", board.undo(), Edges.ILLEGAL);
        }
    }

    private static void undoRefused() {
        Edges.refused(new Board(), Edges.ILLEGAL, "new", Board::undo);
        Board board = new Board();
        board.begin(5);
        Boards.type(board, "a=");
        board.load();
        Edges.refused(board, Edges.ILLEGAL, "behind refused calls and a text", Board::undo);
        board.darken();
        board.undo();
        Edges.refused(board, Edges.ILLEGAL, "all undone", Board::undo);
    }
}
