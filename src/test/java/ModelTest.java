/** Long runs of mixed calls, whose answers the model tells; all promises together. */
public final class ModelTest {
    private static final int RUNS = 400;
    private static final int CALLS = 512;
    private static final int[] EDGES = {
        Integer.MIN_VALUE, Integer.MAX_VALUE, -1, -2, -3, 5, 6, 7, 8, 26, 27, 40, 41, 127, 128, 255, 256,
    };
    private static final String SIGNS = "ab=>;_07f 8gAz 1,";

    private long seed;

    private ModelTest(long seed) {
        this.seed = seed;
    }

    public static void main(String[] args) {
        for (int run = 0; run < RUNS; run++) {
            new ModelTest(run).compare(run);
        }
        Check.end();
    }

    /** A plain sequence of numbers, the same in every run of the test. */
    private int draw(int bound) {
        seed = seed * 6364136223846793005L + 1442695040888963407L;
        return (int) ((seed >>> 33) % bound);
    }

    /** Mostly from least to most, now and then an edge of something. */
    private int from(int least, int most) {
        return draw(25) == 0 ? EDGES[draw(EDGES.length)] : least + draw(most - least + 1);
    }

    private void compare(int run) {
        FlipBoard board = new FlipBoard();
        Model model = new Model();
        int calls = 0;
        while (calls < CALLS) {
            if (draw(12) == 0) {
                String text = draw(4) == 0 ? signs() : items();
                calls += text.length() + 1;
                if (calls < CALLS) {
                    type(board, model, text, "run " + run + ", call " + calls);
                }
            } else {
                int[] call = {pick(), 0, 0, 0};
                arguments(call);
                calls++;
                String name = "run " + run + ", call " + calls + ", " + call[0]
                    + "(" + call[1] + ", " + call[2] + ", " + call[3] + ")";
                Check.due(name, answer(board, call), answer(model, call));
            }
        }
        lookAtAll(board, model, "run " + run);
    }

    private int pick() {
        int[] often = {14, 14, 14, 10, 10, 12, 23, 24, 25, 27, 23, 24, 25, 27, 26, 28, 15, 15};
        return draw(3) == 0 ? often[draw(often.length)] : 2 + draw(27);
    }

    private void type(FlipBoard board, Model model, String text, String where) {
        for (int i = 0; i < text.length(); i++) {
            int code = text.charAt(i);
            Check.due(where + " append", board.appendCharacter(code), model.appendCharacter(code));
        }
        int answer = model.load();
        Check.due(where + " load '" + text + "'", board.load(), answer);
        if (answer < 0) {
            Check.due(where + " clear", board.clearText(), model.clearText());
        }
    }

    private String signs() {
        StringBuilder text = new StringBuilder();
        int length = draw(20);
        for (int i = 0; i < length; i++) {
            text.append(SIGNS.charAt(draw(SIGNS.length())));
        }
        return text.toString();
    }

    private String items() {
        StringBuilder text = new StringBuilder();
        int items = draw(5);
        for (int item = 0; item < items; item++) {
            if (draw(2) == 0) {
                text.append('>');
                int length = 1 + draw(draw(3) == 0 ? 12 : 4);
                for (int i = 0; i < length; i++) {
                    text.append("abcd_abcz".charAt(draw(9)));
                }
            } else {
                text.append((char) ('a' + draw(4))).append('=');
                int columns = 1 + draw(5);
                for (int i = 0; i < columns; i++) {
                    text.append("01234567".charAt(draw(8))).append("0123456789abcdef".charAt(draw(16)));
                }
            }
            text.append(';');
        }
        if (draw(8) == 0 && text.length() > 0) {
            text.setCharAt(draw(text.length()), SIGNS.charAt(draw(SIGNS.length())));
        }
        while (draw(4) == 0) {
            text.insert(draw(text.length() + 1), ' ');
        }
        return text.substring(0, Math.min(120, text.length()));
    }

    private void arguments(int[] call) {
        int[][] ranges = {
            {}, {}, {5, 41}, {0, 2, 0, 2}, {0, 3, 0, 5, 0, 127}, {0, 26, -1, 26}, {0, 7}, {0, 255}, {},
            {}, {0, 7, 0, 1}, {}, {0, 19, 0, 6}, {0, 19, 0, 6}, {1, 6}, {0, 14}, {0, 19, 0, 3},
            {0, 19, 0, 6}, {0, 5, 0, 5}, {0, 7, 0, 12}, {0, 7}, {0, 7, -2, 2, 0, 19}, {1, 20}, {0, 7},
            {0, 7, 0, 1}, {0, 7, 0, 1}, {0, 7, 0, 7}, {1, 63, 0, 5}, {},
        };
        int[] range = ranges[call[0]];
        for (int i = 0; i + 1 < range.length; i += 2) {
            call[1 + i / 2] = from(range[i], range[i + 1]);
        }
        if (call[0] == 3) {
            int[] most = draw(2) == 0 ? new int[] {50, 2, 200} : new int[] {9, 2, 4};
            call[2] = from(0, call[1] >= 0 && call[1] < 3 ? most[call[1]] : 2);
        }
        if (call[0] == 2 && draw(3) > 0) {
            call[1] = 6 + draw(12);
        }
        if (call[0] == 14 && draw(20) == 0) {
            call[1] = from(0, 201);
        }
        if (call[0] == 27 && draw(2) == 0) {
            call[1] = from(1, 255);
        }
    }

    private static void lookAtAll(FlipBoard board, Model model, String run) {
        for (int what = 0; what < 15; what++) {
            Check.due(run + " count", board.count(what), model.count(what));
        }
        for (int column = 0; column < 41; column++) {
            for (int what = 0; what < 7; what++) {
                Check.due(run + " column", board.column(column, what), model.column(column, what));
                Check.due(run + " flips", board.flips(column, what), model.flips(column, what));
            }
        }
        for (int number = 0; number < 27; number++) {
            for (int index = 0; index < 13; index++) {
                Check.due(run + " letter", board.letter(number, index), model.letter(number, index));
                Check.due(run + " message", board.message(number, index), model.message(number, index));
            }
            Check.due(run + " power", board.power(number), model.power(number));
        }
    }

    private static int answer(FlipBoard board, int[] call) {
        int a = call[1];
        int b = call[2];
        int c = call[3];
        switch (call[0]) {
            case 2: return board.begin(a);
            case 3: return board.setNumber(a, b);
            case 4: return board.setColumn(a, b, c);
            case 5: return board.addMessage(a, b);
            case 6: return board.removeMessage(a);
            case 7: return board.appendCharacter(a);
            case 8: return board.clearText();
            case 9: return board.load();
            case 10: return board.show(a, b);
            case 11: return board.darken();
            case 12: return board.jam(a, b);
            case 13: return board.mend(a, b);
            case 14: return board.pass(a);
            case 15: return board.count(a);
            case 16: return board.column(a, b);
            case 17: return board.flips(a, b);
            case 18: return board.letter(a, b);
            case 19: return board.message(a, b);
            case 20: return board.strip(a);
            case 21: return board.picture(a, b, c);
            case 22: return board.power(a);
            case 23: return board.bestShift(a);
            case 24: return board.due(a, b);
            case 25: return board.secondsFor(a, b);
            case 26: return board.between(a, b);
            case 27: return board.bestOrder(a, b);
            default: return board.undo();
        }
    }

    private static int answer(Model model, int[] call) {
        int a = call[1];
        int b = call[2];
        int c = call[3];
        switch (call[0]) {
            case 2: return model.begin(a);
            case 3: return model.setNumber(a, b);
            case 4: return model.setColumn(a, b, c);
            case 5: return model.addMessage(a, b);
            case 6: return model.removeMessage(a);
            case 7: return model.appendCharacter(a);
            case 8: return model.clearText();
            case 9: return model.load();
            case 10: return model.show(a, b);
            case 11: return model.darken();
            case 12: return model.jam(a, b);
            case 13: return model.mend(a, b);
            case 14: return model.pass(a);
            case 15: return model.count(a);
            case 16: return model.column(a, b);
            case 17: return model.flips(a, b);
            case 18: return model.letter(a, b);
            case 19: return model.message(a, b);
            case 20: return model.strip(a);
            case 21: return model.picture(a, b, c);
            case 22: return model.power(a);
            case 23: return model.bestShift(a);
            case 24: return model.due(a, b);
            case 25: return model.secondsFor(a, b);
            case 26: return model.between(a, b);
            case 27: return model.bestOrder(a, b);
            default: return model.undo();
        }
    }
}
