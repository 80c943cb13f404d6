/** Promise 27: bestOrder. */
final class OrderPromises {
    private static final String ORDER = "Promise 27";

    private OrderPromises() {
    }

    static void test() {
        Document.test(ORDER, "Finds the order of some messages in which they can be shown one after the other (with"
            + " the shift 0, beginning with what the board shows now) with the fewest flips",
            OrderPromises::fewestFlips);
        Document.test(ORDER, "(with the shift 0", OrderPromises::shiftZero);
        Document.test(ORDER, "beginning with what the board shows now", OrderPromises::whatIsShown);
        Document.test(ORDER, "if the dots that are known to be stuck are left out, and all others flip",
            OrderPromises::knownDots);
        Document.test(ORDER, "`messages`: a set of 1 to 5 messages (bit k for message k)", OrderPromises::sets);
        Document.test(ORDER, "`what`: 0 the number of flips, 1 to 5 the first to the fifth message of the order",
            OrderPromises::what);
        Document.test(ORDER, "Returns that number", OrderPromises::returns);
        Document.test(ORDER, "of several orders the one with the smaller message where they differ first",
            OrderPromises::smallerFirst);
        Document.test(ORDER, "INVALID_ARGUMENT if messages is not such a set or what is out of range",
            OrderPromises::refused);
        Document.test(ORDER, "NONE if there are not so many messages in the set", OrderPromises::none);
    }

    /** Each is the one ahead and a dot more, from the top down, in this mixed order. */
    private static Board nested() {
        return Boards.withText(6,
            "a=7f; b=01; c=3f; d=03; e=0f; f=07; g=1f; >a; >b; >c; >d; >e; >f; >g; >h;");
    }

    private static void orderIs(Board board, int messages, int flips, int... order) {
        Check.due("flips of " + messages, board.bestOrder(messages, 0), flips);
        for (int place = 1; place <= order.length; place++) {
            Check.due("place " + place + " of " + messages, board.bestOrder(messages, place), order[place - 1]);
        }
        for (int place = order.length + 1; place <= 5; place++) {
            Check.due("no place " + place, board.bestOrder(messages, place), Edges.NONE);
        }
    }

    private static void fewestFlips() {
        Board board = nested();
        orderIs(board, 0b0111_1010, 5, 1, 3, 5, 4, 6);
        orderIs(board, 0b0101_1101, 7, 3, 4, 6, 2, 0);
        orderIs(board, 0b1000_0001, 7, 7, 0);
        board.show(5, 0);
        board.pass(1);
        // with the nearest one first it would be 1 + 3 + 6
        orderIs(board, 0b0001_0011, 2 + 3 + 3, 1, 4, 0);
    }

    private static void shiftZero() {
        Board board = Boards.withText(8, "a=7f; b=7f0000; >a; >b;");
        board.show(1, 0);
        board.pass(1);
        Check.due("it could be shown in the place of the other one", board.bestShift(0), -1);
        orderIs(board, 1, 14, 0);
        orderIs(board, 3, 14, 1, 0);
    }

    private static void whatIsShown() {
        Board board = nested();
        orderIs(board, 0b0001_0011, 7, 1, 4, 0);
        board.show(0, 0);
        orderIs(board, 0b0001_0011, 7, 1, 4, 0);
        board.pass(1);
        orderIs(board, 0b0001_0011, 6, 0, 4, 1);
        board.show(4, 0);
        board.pass(1);
        orderIs(board, 0b0001_0011, 3 + 3 + 3, 0, 4, 1);
        orderIs(board, 1, 3, 0);
    }

    private static void knownDots() {
        Board board = Boards.withText(6, "a=70; b=03; >a; >b;");
        orderIs(board, 3, 2 + 5, 1, 0);
        board.jam(2, 4);
        board.jam(2, 5);
        orderIs(board, 3, 2 + 5, 1, 0);
        board.show(0, 0);
        board.pass(1);
        Check.due("two known dots", board.count(Boards.KNOWN), 2);
        board.darken();
        board.pass(1);
        orderIs(board, 3, 1 + 3, 0, 1);
        Board life = Boards.withText(6, "a=01; b=02; >a; >b; >q;");
        life.setNumber(2, 1);
        orderIs(life, 0b111, 1 + 1 + 1, 0, 2, 1);
        life.show(0, 0);
        life.pass(1);
        orderIs(life, 0b111, 0 + 1 + 1, 0, 2, 1);
    }

    private static void sets() {
        Board board = nested();
        for (int message = 0; message < 8; message++) {
            Check.due("one message", board.bestOrder(1 << message, 1), message);
        }
        Check.due("the first five", board.bestOrder(0b0001_1111, 5), 0);
        Check.due("the last five", board.bestOrder(0b1111_1000, 1), 7);
        Check.due("six", board.bestOrder(0b0011_1111, 0), Edges.INVALID);
        Check.due("all eight", board.bestOrder(0b1111_1111, 0), Edges.INVALID);
        Check.due("none", board.bestOrder(0, 0), Edges.INVALID);
        Check.due("a ninth", board.bestOrder(0b1_0000_0000, 0), Edges.INVALID);
        Check.due("a ninth and one that is there", board.bestOrder(0b1_0000_0001, 1), Edges.INVALID);
        Check.due("the sign", board.bestOrder(Integer.MIN_VALUE, 0), Edges.INVALID);
        Check.due("the sign and one that is there", board.bestOrder(Integer.MIN_VALUE + 1, 0), Edges.INVALID);
        Check.due("all bits", board.bestOrder(-1, 0), Edges.INVALID);
        board.removeMessage(0);
        Check.due("seven are left", board.bestOrder(0b1000_0000, 0), Edges.INVALID);
        Check.due("the seventh", board.bestOrder(0b0100_0000, 1), 6);
        Edges.range(Edges.busy(), 1, 5, 7, 23, (b, messages) -> b.bestOrder(messages, 0));
        Edges.refusedBeside(new Board(), 1, 0, (b, messages) -> b.bestOrder(messages, 0));
    }

    private static void what() {
        Board board = nested();
        Edges.range(board, 0, 6, 5, 2, (b, what) -> b.bestOrder(0b0101_1110, what));
        Edges.range(board, 0, 1, 5, Edges.NONE, (b, what) -> b.bestOrder(2, what));
        orderIs(board, 0b0101_1110, 6, 1, 3, 4, 6, 2);
    }

    private static void returns() {
        Board board = Boards.withText(40, "e=7f7f7f7f7f; >eeeeeeeeeeee; >q; >qe; >e;");
        Check.due("none", board.bestOrder(2, 0), 0);
        Check.due("most of one", board.bestOrder(1, 0), 238);
        board.setNumber(0, 50);
        board.show(0, 0);
        board.pass(9);
        Check.due("shown already", board.bestOrder(1, 0), 0);
        Check.due("all back", board.bestOrder(2, 0), 238);
        Check.due("stays, then back", board.bestOrder(3, 0), 238);
        Check.due("first", board.bestOrder(3, 1), 0);
    }

    private static void smallerFirst() {
        Board single = Boards.withText(6, "a=01; b=02; c=04; d=08; e=10; >a; >b; >c; >d; >e;");
        orderIs(single, 0b11111, 9, 0, 1, 2, 3, 4);
        orderIs(single, 0b11010, 5, 1, 3, 4);
        single.show(3, 0);
        single.pass(1);
        orderIs(single, 0b11111, 8, 3, 0, 1, 2, 4);
        Board same = Boards.withText(6, "a=01; >a; >a; >a; >a; >a; >a; >a; >a;");
        orderIs(same, 0b11111000, 1, 3, 4, 5, 6, 7);
        orderIs(same, 0b10010101, 1, 0, 2, 4, 7);
        // 1, 0, 2 and 1, 2, 0 have as few flips: they differ at the second place first
        Board second = Boards.withText(6, "b=01; c=02; >b; >q; >b; >c;");
        orderIs(second, 0b0111, 1, 1, 0, 2);
        orderIs(second, 0b1111, 3, 0, 2, 1, 3);
    }

    private static void refused() {
        Board board = nested();
        Edges.refused(board, Edges.INVALID, "bestOrder(0, 0)", b -> b.bestOrder(0, 0));
        Edges.refused(board, Edges.INVALID, "bestOrder(63, 0)", b -> b.bestOrder(63, 0));
        Edges.refused(board, Edges.INVALID, "bestOrder(256, 0)", b -> b.bestOrder(256, 0));
        Edges.refused(board, Edges.INVALID, "bestOrder(1, 6)", b -> b.bestOrder(1, 6));
        Edges.refused(board, Edges.INVALID, "bestOrder(1, -1)", b -> b.bestOrder(1, -1));
        Edges.refused(board, Edges.INVALID, "bestOrder(0, 6)", b -> b.bestOrder(0, 6));
        Edges.refused(new Board(), Edges.INVALID, "no message", b -> b.bestOrder(1, 0));
    }

    private static void none() {
        Board board = nested();
        int[] sets = {0b1, 0b1000_0001, 0b0010_0110, 0b1111, 0b1111_1000};
        for (int size = 1; size <= 5; size++) {
            for (int place = 1; place <= 5; place++) {
                int answer = board.bestOrder(sets[size - 1], place);
                Check.that("place " + place + " of " + size, place > size ? answer == Edges.NONE : answer >= 0);
            }
        }
    }
}
