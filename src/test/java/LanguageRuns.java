import java.lang.management.ManagementFactory;

/** Rules of the language that show when the program runs. */
final class LanguageRuns {
    private static final int[] ARGUMENTS = {Integer.MIN_VALUE, -1010, -3, -2, -1, 0, 0, 0, 1, 1, 2, 3, 4, 5, 6, 7,
        8, 9, 14, 19, 20, 25, 26, 31, 39, 40, 41, 50, 100, 119, 127, 128, 200, 255, 256, 1 << 30, Integer.MAX_VALUE};
    private static final String TEXT = "a=7f08 3e;>a_b;>ab;z=01;>zz_az;";
    private static final int CALLS = 60_000;

    private LanguageRuns() {
    }

    /** Far behind the 512th call too, where answers are free, and with arguments that are far off. */
    static void neverThrows() {
        Check.that("answers differ", answers(1) != answers(2));
    }

    static void sameAnswers() {
        Check.due("all answers", answers(3), answers(3));
    }

    /** One number for all answers of a long run of mixed calls. */
    private static long answers(long seed) {
        Board board = Board.withoutEnd();
        long state = seed;
        long answers = 0;
        for (int call = 0; call < CALLS; call++) {
            state = state * 6364136223846793005L + 1442695040888963407L;
            int promise = promiseOf(state);
            boolean isText = promise == Calls.APPEND_CHARACTER && (state >> 60 & 7) != 0;
            int first = isText ? TEXT.charAt(board.count(Boards.TEXT) % TEXT.length()) : argument(state >> 13);
            answers = answers * 31 + board.call(promise, first, argument(state >> 23), argument(state >> 43));
        }
        return answers;
    }

    /** Characters and seconds come often, so that texts grow long enough to be read and lives end. */
    private static int promiseOf(long state) {
        int promise = Calls.BEGIN + Math.floorMod(state >> 33, Calls.UNDO + 20);
        if (promise > Calls.UNDO) {
            return promise % 4 == 0 ? Calls.PASS : Calls.APPEND_CHARACTER;
        }
        return promise;
    }

    private static int argument(long state) {
        return ARGUMENTS[Math.floorMod(state, ARGUMENTS.length)];
    }

    /** The dearest calls make no object: all rows are made by the constructor. */
    static void makesNothing() {
        FlipBoard board = new FlipBoard();
        board.begin(40);
        for (char sign : "a=7f7f7f7f7f;>aaaaaaaaaaaa;>a;>aa;>aaa;>a_a;".toCharArray()) {
            board.appendCharacter(sign);
        }
        Check.due("items", board.load(), 6);
        work(board);
        long before = bytesMade();
        work(board);
        long made = bytesMade() - before;
        Check.that("bytes made by calls: " + made, made < 10_000);
        before = bytesMade();
        new FlipBoard();
        made = bytesMade() - before;
        Check.that("bytes made by the constructor: " + made, made < 100_000);
    }

    private static long bytesMade() {
        var threads = (com.sun.management.ThreadMXBean) ManagementFactory.getThreadMXBean();
        return threads.getThreadAllocatedBytes(Thread.currentThread().getId());
    }

    private static void work(FlipBoard board) {
        for (int time = 0; time < 20; time++) {
            board.show(time % 5, time % 2);
            board.pass(10);
            board.secondsFor(0, 1);
            board.bestOrder(31, 5);
            board.appendCharacter(' ');
            board.load();
            board.undo();
        }
    }
}
