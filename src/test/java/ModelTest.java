/** Long runs of mixed calls, whose answers the model tells; all promises together. */
public final class ModelTest {
    private static final int RUNS = 400;
    /** Far enough from the last call to leave room for a look. */
    private static final int LOOK_BEHIND = 380;
    private static final int[] EDGES = {
        Integer.MIN_VALUE, Integer.MAX_VALUE, -1, -2, -3, 5, 6, 7, 8, 26, 27, 40, 41, 127, 128, 255, 256,
    };
    private static final String SIGNS = "ab=>;_07f 8gAz 1,";

    private long seed;

    private ModelTest(long seed) {
        this.seed = seed;
    }

    public static void main(String[] args) {
        for (int run = 0; run < RUNS; run++) {
            new ModelTest(run).compare(run);
        }
        Check.end();
    }

    /** A plain sequence of numbers, the same in every run of the test. */
    private int draw(int bound) {
        seed = seed * 6364136223846793005L + 1442695040888963407L;
        return (int) ((seed >>> 33) % bound);
    }

    /** Mostly from least to most, now and then an edge of something. */
    private int from(int least, int most) {
        return draw(25) == 0 ? EDGES[draw(EDGES.length)] : least + draw(most - least + 1);
    }

    private void compare(int run) {
        Board board = new Board();
        Model model = new Model();
        boolean looked = false;
        while (board.calls() < Board.MOST_CALLS) {
            String where = "run " + run + ", call " + (board.calls() + 1);
            String text = draw(12) > 0 ? "" : draw(4) == 0 ? signs() : items();
            if (text.isEmpty()) {
                one(board, model, where);
            } else if (board.calls() + text.length() + 2 <= Board.MOST_CALLS) {
                type(board, model, text, where);
            }
            if (!looked && board.calls() >= LOOK_BEHIND) {
                Check.same(where + ", look", board.look(), Look.at(model));
                looked = true;
            }
        }
    }

    private void one(Board board, Model model, String where) {
        int[] call = {pick(), 0, 0, 0};
        arguments(call);
        String name = where + ", " + call[0] + "(" + call[1] + ", " + call[2] + ", " + call[3] + ")";
        int answer = model.call(call[0], call[1], call[2], call[3]);
        Check.due(name, board.call(call[0], call[1], call[2], call[3]), answer);
    }

    private int pick() {
        int[] often = {14, 14, 14, 10, 10, 12, 23, 24, 25, 27, 23, 24, 25, 27, 26, 28, 15, 15};
        return draw(3) == 0 ? often[draw(often.length)] : 2 + draw(27);
    }

    private static void type(Board board, Model model, String text, String where) {
        for (int i = 0; i < text.length(); i++) {
            int code = text.charAt(i);
            Check.due(where + " append", board.appendCharacter(code), model.appendCharacter(code));
        }
        int answer = model.load();
        Check.due(where + " load '" + text + "'", board.load(), answer);
        if (answer < 0) {
            Check.due(where + " clear", board.clearText(), model.clearText());
        }
    }

    private String signs() {
        StringBuilder text = new StringBuilder();
        int length = draw(20);
        for (int i = 0; i < length; i++) {
            text.append(SIGNS.charAt(draw(SIGNS.length())));
        }
        return text.toString();
    }

    private String items() {
        StringBuilder text = new StringBuilder();
        int items = draw(5);
        for (int item = 0; item < items; item++) {
            if (draw(2) == 0) {
                text.append('>');
                int length = 1 + draw(draw(3) == 0 ? 12 : 4);
                for (int i = 0; i < length; i++) {
                    text.append("abcd_abcz".charAt(draw(9)));
                }
            } else {
                text.append((char) ('a' + draw(4))).append('=');
                int columns = 1 + draw(5);
                for (int i = 0; i < columns; i++) {
                    text.append("01234567".charAt(draw(8))).append("0123456789abcdef".charAt(draw(16)));
                }
            }
            text.append(';');
        }
        if (draw(8) == 0 && text.length() > 0) {
            text.setCharAt(draw(text.length()), SIGNS.charAt(draw(SIGNS.length())));
        }
        while (draw(4) == 0) {
            text.insert(draw(text.length() + 1), ' ');
        }
        return text.substring(0, Math.min(120, text.length()));
    }

    private void arguments(int[] call) {
        int[][] ranges = {
            {}, {}, {5, 41}, {0, 2, 0, 2}, {0, 3, 0, 5, 0, 127}, {0, 26, -1, 26}, {0, 7}, {0, 255}, {},
            {}, {0, 7, 0, 1}, {}, {0, 19, 0, 6}, {0, 19, 0, 6}, {1, 6}, {0, 14}, {0, 19, 0, 3},
            {0, 19, 0, 6}, {0, 5, 0, 5}, {0, 7, 0, 12}, {0, 7}, {0, 7, -2, 2, 0, 19}, {1, 20}, {0, 7},
            {0, 7, 0, 1}, {0, 7, 0, 1}, {0, 7, 0, 7}, {1, 63, 0, 5}, {},
        };
        int[] range = ranges[call[0]];
        for (int i = 0; i + 1 < range.length; i += 2) {
            call[1 + i / 2] = from(range[i], range[i + 1]);
        }
        if (call[0] == 3) {
            int[] most = draw(2) == 0 ? new int[] {50, 2, 200} : new int[] {9, 2, 4};
            call[2] = from(0, call[1] >= 0 && call[1] < 3 ? most[call[1]] : 2);
        }
        if (call[0] == 2 && draw(3) > 0) {
            call[1] = 6 + draw(12);
        }
        if (call[0] == 14 && draw(20) == 0) {
            call[1] = from(0, 201);
        }
        if (call[0] == 27 && draw(2) == 0) {
            call[1] = from(1, 255);
        }
    }
}
