/** The edges that "Seconds" names. */
final class SecondTerms {
    private static final String SECONDS = "Seconds";

    private SecondTerms() {
    }

    static void test() {
        Document.test(SECONDS, "In each second (also if no dot is due), there is a power of P units",
            SecondTerms::eachSecond);
        Document.test(SECONDS, "2 to 50 (at first 10)", SecondTerms::powers);
        Document.test(SECONDS, "0 (at first) from the left", SecondTerms::fromTheLeft);
        Document.test(SECONDS, "1 from the right", SecondTerms::fromTheRight);
        Document.test(SECONDS, "2 by the number of their due dots at the beginning of the second, the greatest"
            + " first", SecondTerms::greatestFirst);
        Document.test(SECONDS, "by the number of their due dots", SecondTerms::knownDotsDoNotCount);
        Document.test(SECONDS, "of several the leftmost first", SecondTerms::leftmostFirst);
        Document.test(SECONDS, "1 unit is used for the column (in each second in which it is gone through)",
            SecondTerms::unitOfTheColumn);
        Document.test(SECONDS, "and then 1 unit for each due dot, from the top down", SecondTerms::topDown);
        Document.test(SECONDS, "a dot that is stuck does not flip (its unit is used all the same), and is known to"
            + " be stuck from then on", SecondTerms::stuckDots);
        Document.test(SECONDS, "any other dot flips, which is one more flip of it", SecondTerms::oneMoreFlip);
        Document.test(SECONDS, "if it has made as many flips as a life is long then, or more, it is stuck from then"
            + " on (on the side that it shows now", SecondTerms::lifeEnds);
        Document.test(SECONDS, "this is not known yet)", SecondTerms::notKnownYet);
        Document.test(SECONDS, "The second ends when no due dots are left", SecondTerms::noDueDotsLeft);
        Document.test(SECONDS, "when no unit is left", SecondTerms::noUnitLeft);
        Document.test(SECONDS, "or when only 1 unit is left ahead of a column (this one is not used)",
            SecondTerms::oneUnitLeft);
        Document.test(SECONDS, "A life is 1 to 200 flips long, at first 100", SecondTerms::lives);
        Document.test(SECONDS, "The power that was used is counted in all, and for the last 20 seconds",
            SecondTerms::twentySeconds);
    }

    /** Shows message 0 of a text that tells the letter a alone. */
    private static Board showing(int width, String columns, int power, int order) {
        Board board = Boards.withText(width, "a=" + columns + "; >a;");
        board.setNumber(0, power);
        board.setNumber(1, order);
        board.show(0, 0);
        return board;
    }

    /** Each row is what the board shows from column 1 on behind one more second. */
    private static void showsInTurn(Board board, int[]... seconds) {
        for (int second = 0; second < seconds.length; second++) {
            board.pass(1);
            for (int column = 0; column < seconds[second].length; column++) {
                String what = "second " + (second + 1) + ", column " + (column + 1);
                Check.due(what, board.column(column + 1, 0), seconds[second][column]);
            }
        }
    }

    private static void powersAre(Board board, int... agos) {
        for (int ago = 1; ago <= agos.length; ago++) {
            Check.due("power, " + ago + " ago", board.power(ago), agos[ago - 1]);
        }
    }

    private static void eachSecond() {
        Board board = Boards.withText(6, "a=7f; >a;");
        board.setNumber(0, 2);
        Check.due("no second yet", board.power(1), Edges.NONE);
        board.pass(3);
        Check.due("seconds without due dots", board.count(Boards.SECONDS), 3);
        powersAre(board, 0, 0, 0, Edges.NONE);
        board.show(0, 0);
        Check.due("nothing is saved up", board.pass(1), 6);
        powersAre(board, 2, 0, 0, 0, Edges.NONE);
        Check.due("the same again", board.pass(1), 5);
        powersAre(board, 2, 2, 0, 0, 0, Edges.NONE);
    }

    private static void powers() {
        Board first = Boards.withText(6, "a=7f7f; >a;");
        first.show(0, 0);
        Check.due("at first 10", first.count(1), 10);
        Check.due("7 dots and one more", first.pass(1), 6);
        powersAre(first, 10);
        Edges.refused(first, Edges.INVALID, "a power of 1", b -> b.setNumber(0, 1));
        Edges.refused(first, Edges.INVALID, "a power of 51", b -> b.setNumber(0, 51));
        Board least = showing(6, "7f7f", 2, 0);
        for (int due = 13; due >= 0; due--) {
            Check.due("one dot with 2 units", least.pass(1), due);
            powersAre(least, 2);
        }
        least.pass(1);
        powersAre(least, 0);
        Board most = Boards.withText(40, "e=7f7f7f7f7f; >eeeeeeeeeeee;");
        most.setNumber(0, 50);
        Check.due("34 full columns", most.show(0, 0), 238);
        Check.due("six columns and a dot with 50 units", most.pass(1), 238 - 43);
        powersAre(most, 50);
        Edges.shows("six and a dot", most, 127, 127, 127, 127, 127, 0, 127, 1, 0);
    }

    private static void fromTheLeft() {
        Board board = Boards.withText(6, "a=010101; >a;");
        board.setNumber(0, 2);
        board.show(0, 0);
        showsInTurn(board, new int[] {1, 0, 0}, new int[] {1, 1, 0}, new int[] {1, 1, 1});
        Board edges = showing(40, "01", 2, 0);
        Check.due("order at first", board.count(2), 0);
        Boards.load(edges, "e=0100000001; b=01000001; >eeeeeeb;");
        edges.show(1, 0);
        edges.pass(1);
        Check.due("column 0 first", edges.column(0, 0), 1);
        Check.due("not yet column 39", edges.column(39, 0), 0);
    }

    private static void fromTheRight() {
        Board board = showing(6, "010101", 2, 1);
        showsInTurn(board, new int[] {0, 0, 1}, new int[] {0, 1, 1}, new int[] {1, 1, 1});
        Board edges = showing(40, "01", 2, 1);
        Boards.load(edges, "e=0100000001; b=01000001; >eeeeeeb;");
        edges.show(1, 0);
        edges.pass(1);
        Check.due("column 39 first", edges.column(39, 0), 1);
        Check.due("not yet column 0", edges.column(0, 0), 0);
        edges.pass(15);
        Check.due("column 0 last", edges.column(0, 0), 1);
        Check.due("none left", edges.count(Boards.DUE), 0);
    }

    private static void greatestFirst() {
        Board board = showing(6, "010703", 2, 2);
        showsInTurn(board, new int[] {0, 1, 0}, new int[] {0, 3, 0}, new int[] {0, 3, 1},
            new int[] {1, 3, 1}, new int[] {1, 7, 1}, new int[] {1, 7, 3});
        Board beginning = showing(6, "1f0f00", 8, 2);
        showsInTurn(beginning, new int[] {0x1f, 1}, new int[] {0x1f, 0x0f});
        Board anew = showing(6, "1f0f00", 4, 2);
        anew.pass(2);
        Edges.shows("counted anew in the second second of one call", anew, 0, 7, 7, 0, 0, 0);
        Board edges = Boards.withText(6, "e=0301000007; >e;");
        edges.setNumber(0, 2);
        edges.setNumber(1, 2);
        edges.show(0, 0);
        int[][] shown = {{0, 0, 1}, {1, 0, 1}, {1, 0, 3}, {3, 0, 3}, {3, 1, 3}, {3, 1, 7}};
        for (int[] columns : shown) {
            edges.pass(1);
            Edges.shows("with column 0", edges, columns[0], columns[1], 0, 0, columns[2], 0);
        }
        Board wide = Boards.withText(40, "e=0100000001; b=01000003; >eeeeeeb;");
        wide.setNumber(0, 2);
        wide.setNumber(1, 2);
        wide.show(0, 0);
        wide.pass(1);
        Check.due("with column 39", wide.column(39, 0), 1);
        wide.pass(1);
        Check.due("then column 0, the leftmost", wide.column(0, 0), 1);
        Check.due("not yet column 4", wide.column(4, 0), 0);
    }

    private static void knownDotsDoNotCount() {
        Board known = Boards.withText(6, "a=0f07; >a;");
        known.jam(2, 0);
        known.jam(2, 1);
        known.show(0, 0);
        known.pass(1);
        known.darken();
        known.pass(2);
        known.setNumber(0, 2);
        known.setNumber(1, 2);
        known.show(0, 0);
        known.pass(1);
        Edges.shows("known dots do not count", known, 0, 0, 0, 1, 0, 0);
    }

    private static void leftmostFirst() {
        Board board = showing(6, "030303", 2, 2);
        showsInTurn(board, new int[] {1, 0, 0}, new int[] {1, 1, 0}, new int[] {1, 1, 1},
            new int[] {3, 1, 1}, new int[] {3, 3, 1}, new int[] {3, 3, 3});
        Board two = showing(6, "01000301", 5, 2);
        showsInTurn(two, new int[] {1, 0, 3, 0}, new int[] {1, 0, 3, 1});
    }

    private static void unitOfTheColumn() {
        Board board = showing(6, "7f", 4, 0);
        Check.due("three dots", board.pass(1), 4);
        Check.due("three again", board.pass(1), 1);
        Check.due("the last", board.pass(1), 0);
        powersAre(board, 2, 4, 4);
        Check.due("seven dots and the column three times", board.count(Boards.POWER), 10);
        Board dark = showing(6, "0100010001", 50, 0);
        dark.pass(1);
        powersAre(dark, 6);
        Board one = showing(6, "7f", 8, 0);
        Check.due("all in one second", one.pass(1), 0);
        powersAre(one, 8);
    }

    private static void topDown() {
        Board board = showing(8, "7f", 3, 0);
        int[] shown = {0x03, 0x0f, 0x3f, 0x7f};
        for (int second = 0; second < shown.length; second++) {
            board.pass(1);
            Check.due("two more from the top", board.column(3, 0), shown[second]);
        }
        board.setColumn(0, 0, 0x2a);
        board.show(0, 0);
        board.pass(1);
        Check.due("to dark from the top, too", board.column(3, 0), 0x7a);
        board.pass(1);
        Check.due("the lower ones", board.column(3, 0), 0x2a);
        powersAre(board, 3, 3);
    }

    private static void stuckDots() {
        Board board = showing(6, "7f", 2, 0);
        board.jam(2, 0);
        board.jam(2, 6);
        Check.due("the unit is used on a stuck dot", board.pass(1), 6);
        powersAre(board, 2);
        Check.due("no flip", board.count(Boards.FLIPS), 0);
        Check.due("none of it", board.flips(2, 0), 0);
        Check.due("still dark", board.column(2, 0), 0);
        Check.due("known", board.column(2, 3), 1);
        Check.due("tried", board.count(Boards.TRIES), 1);
        board.pass(5);
        Check.due("the other one is not known until it is tried", board.column(2, 3), 1);
        Check.due("it is due", board.count(Boards.DUE), 1);
        board.pass(1);
        Check.due("both known", board.column(2, 3), 0x41);
        Check.due("tried in all", board.count(Boards.TRIES), 2);
        Check.due("flips in all", board.count(Boards.FLIPS), 5);
        board.pass(5);
        Check.due("not tried again", board.count(Boards.TRIES), 2);
        powersAre(board, 0, 0, 0, 0, 0, 2);
    }

    private static void oneMoreFlip() {
        Board board = Boards.withText(6, "a=09; >a;");
        for (int flip = 0; flip < 6; flip++) {
            Check.due("flips", board.flips(2, 3), flip);
            Check.due("flips in all", board.count(Boards.FLIPS), 2 * flip);
            Check.due("shown", board.column(2, 0), flip % 2 == 0 ? 0 : 9);
            Edges.flipTimes(board, 0, flip, flip + 1);
        }
        Check.due("none of the other dots", board.flips(2, 1), 0);
    }

    private static void lifeEnds() {
        Board board = Boards.withText(6, "a=01; >a;");
        board.setNumber(2, 3);
        Edges.flipTimes(board, 0, 0, 2);
        Check.due("two flips of three", board.column(2, 2), 0);
        Edges.flipTimes(board, 0, 2, 3);
        Check.due("as many flips as a life", board.column(2, 2), 1);
        Check.due("on the bright side", board.column(2, 0), 1);
        board.darken();
        board.pass(1);
        Check.due("it stays there", board.column(2, 0), 1);
        Check.due("without a fourth flip", board.flips(2, 0), 3);
        Board more = Boards.withText(6, "a=01; >a;");
        Edges.flipTimes(more, 0, 0, 3);
        more.setNumber(2, 2);
        Check.due("more flips than a life, not stuck by that", more.column(2, 2), 0);
        Edges.flipTimes(more, 0, 3, 4);
        Check.due("stuck with the next flip", more.column(2, 2), 1);
        Check.due("on the dark side", more.column(2, 0), 0);
        Check.due("the flip was made", more.flips(2, 0), 4);
        Board longer = Boards.withText(6, "a=01; >a;");
        longer.setNumber(2, 2);
        Edges.flipTimes(longer, 0, 0, 1);
        longer.setNumber(2, 3);
        Edges.flipTimes(longer, 0, 1, 2);
        Check.due("a life is as long as it is then", longer.column(2, 2), 0);
    }

    private static void notKnownYet() {
        Board board = Boards.withText(6, "a=01; >a;");
        board.setNumber(2, 1);
        Edges.flipTimes(board, 0, 0, 1);
        Check.due("stuck", board.column(2, 2), 1);
        Check.due("not known", board.column(2, 3), 0);
        Check.due("due, therefore", board.darken(), 1);
        Check.due("found by trying", board.pass(1), 0);
        Check.due("known", board.column(2, 3), 1);
        Check.due("one try", board.count(Boards.TRIES), 1);
    }

    private static void noDueDotsLeft() {
        Board board = showing(6, "01", 10, 0);
        board.pass(1);
        powersAre(board, 2);
        Board two = showing(6, "0101", 10, 1);
        two.pass(1);
        powersAre(two, 4);
        Board stuck = showing(6, "03", 10, 0);
        stuck.jam(2, 0);
        stuck.jam(2, 1);
        Check.due("all found stuck", stuck.pass(1), 0);
        powersAre(stuck, 3);
        Board all = showing(6, "7f7f7f7f7f", 50, 0);
        Check.due("five full columns", all.pass(1), 0);
        powersAre(all, 40);
    }

    private static void noUnitLeft() {
        Board within = showing(6, "7f", 7, 0);
        Check.due("within a column", within.pass(1), 1);
        powersAre(within, 7);
        Board end = showing(6, "7f01", 8, 0);
        Check.due("at the end of a column", end.pass(1), 1);
        powersAre(end, 8);
        Board second = showing(6, "7f03", 10, 0);
        Check.due("within the second column", second.pass(1), 1);
        powersAre(second, 10);
        Board exact = showing(6, "7f01", 10, 0);
        Check.due("with the last dot", exact.pass(1), 0);
        powersAre(exact, 10);
    }

    private static void oneUnitLeft() {
        for (int order = 0; order < 3; order++) {
            Board board = showing(6, order == 1 ? "017f" : "7f01", 9, order);
            Check.due("ahead of the second column", board.pass(1), 1);
            powersAre(board, 8);
            Check.due("not kept for the next second", board.pass(1), 0);
            powersAre(board, 2, 8);
        }
        Board least = showing(6, "010101", 3, 0);
        Check.due("ahead of the second of three", least.pass(1), 2);
        powersAre(least, 2);
        Board none = showing(6, "01", 3, 0);
        Check.due("with no further column", none.pass(1), 0);
        powersAre(none, 2);
        Board later = showing(6, "010001", 5, 0);
        Check.due("a column that is not due takes no unit", later.pass(1), 0);
        powersAre(later, 4);
    }

    private static void lives() {
        livesFor(100, new Board());
        Board longest = new Board();
        Check.due("at first", longest.setNumber(2, 200), 100);
        livesFor(200, longest);
        Board shortest = new Board();
        shortest.setNumber(2, 1);
        livesFor(1, shortest);
        Edges.refused(shortest, Edges.INVALID, "a life of 0", b -> b.setNumber(2, 0));
        Edges.refused(shortest, Edges.INVALID, "a life of 201", b -> b.setNumber(2, 201));
    }

    private static void livesFor(int life, Board board) {
        board.setColumn(0, 0, 64);
        board.addMessage(0, -1);
        Edges.flipTimes(board, 0, 0, life - 1);
        Check.due("flips of the life of " + life, board.flips(9, 6), life - 1);
        Check.due("not stuck with one less", board.count(Boards.STUCK), 0);
        Edges.flipTimes(board, 0, life - 1, life);
        Check.due("all its flips", board.flips(9, 6), life);
        Check.due("stuck with the last one", board.count(Boards.STUCK), 1);
        Edges.flipTimes(board, 0, life, life + 1);
        Check.due("no flip more", board.flips(9, 6), life);
        Check.due("but a try", board.count(Boards.TRIES), 1);
    }

    private static void twentySeconds() {
        Board board = showing(6, "7f7f", 10, 0);
        board.pass(1);
        board.pass(1);
        Check.due("two seconds", board.power(2), 10);
        Check.due("the second one", board.power(1), 7);
        Check.due("no third", board.power(3), Edges.NONE);
        board.pass(17);
        Check.due("19 seconds", board.power(19), 10);
        Check.due("no 20th", board.power(20), Edges.NONE);
        board.pass(1);
        Check.due("20 seconds, the first", board.power(20), 10);
        Check.due("20 seconds, the second", board.power(19), 7);
        Check.due("20 seconds, the last", board.power(1), 0);
        Check.due("never a 21st", board.power(21), Edges.INVALID);
        board.pass(1);
        Check.due("21 seconds, the first is gone", board.power(20), 7);
        Check.due("21 seconds, the third", board.power(19), 0);
        board.pass(1);
        Check.due("22 seconds", board.power(20), 0);
        Check.due("in all", board.count(Boards.POWER), 17);
        board.darken();
        board.pass(200);
        Check.due("in all, there and back", board.count(Boards.POWER), 34);
        Check.due("all seconds", board.count(Boards.SECONDS), 222);
        Check.due("200 seconds ago", board.power(20), 0);
        board.show(0, 0);
        board.pass(1);
        Check.due("behind many seconds", board.power(1), 10);
    }
}
