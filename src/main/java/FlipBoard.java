import java.util.Arrays;

public final class FlipBoard {
    public static final int INVALID_ARGUMENT = -1001;
    public static final int ILLEGAL_STATE = -1002;
    public static final int CAPACITY_EXCEEDED = -1003;
    public static final int NONE = -1009;

    private static final int FEWEST_COLUMNS = 6;
    private static final int MOST_COLUMNS = 40;
    private static final int FIRST_COLUMNS = 20;
    private static final int ROWS = 7;
    private static final int MOST_BITS = 127;

    private static final int POWER = 0;
    private static final int ORDER = 1;
    private static final int LIFE = 2;
    private static final int[] FIRST_NUMBERS = {10, 0, 100};
    private static final int[] LEAST_NUMBERS = {2, 0, 1};
    private static final int[] MOST_NUMBERS = {50, 2, 200};

    private static final int FROM_THE_RIGHT = 1;
    private static final int BY_DUE_DOTS = 2;

    private static final int LETTERS = 26;
    private static final int GAP = 26;
    private static final int GAP_COLUMNS = 2;
    private static final int LETTER_COLUMNS = 5;
    private static final int MESSAGES = 8;
    private static final int CHARACTERS = 12;
    private static final int NO_CHARACTER = -1;

    private static final int FARTHEST_SHIFT = 2;
    // the shift that is better where all else is alike stands first
    private static final int[] SHIFTS = {0, -1, 1, -2, 2};
    private static final int BEST_SHIFT = 1;

    private static final int TEXT_LENGTH = 120;
    private static final int MOST_CODE = 255;
    private static final int NO_ERROR = -1;
    private static final int TEXT_ERROR = -2000;

    private static final int MOST_PASSED = 200;
    private static final int MOST_FORESEEN = 300;
    private static final int RECENT_SECONDS = 20;
    private static final int SAVED_STATES = 6;
    private static final int ORDERED_MESSAGES = 5;

    private final State now = new State();
    private final State trial = new State();
    private final History history = new History();
    private final Painter painter = new Painter();
    private final Flipper flipper = new Flipper();
    private final Reader reader = new Reader();
    private final Orders orders = new Orders();
    private final int[] text = new int[TEXT_LENGTH];
    private int textLength = 0;

    public FlipBoard() {
    }

    // ---- settings

    public int begin(int columns) {
        if (columns < FEWEST_COLUMNS || columns > MOST_COLUMNS) {
            return INVALID_ARGUMENT;
        }
        history.keep(now);
        int previous = now.dots.width;
        now.dots.renew(columns);
        now.meter.renew();
        return previous;
    }

    public int setNumber(int what, int value) {
        if (!now.hasNumber(what) || value < LEAST_NUMBERS[what] || value > MOST_NUMBERS[what]) {
            return INVALID_ARGUMENT;
        }
        history.keep(now);
        int previous = now.numbers[what];
        now.numbers[what] = value;
        return previous;
    }

    public int setColumn(int letter, int index, int bits) {
        if (letter < 0 || letter >= LETTERS || bits < 0 || bits > MOST_BITS) {
            return INVALID_ARGUMENT;
        }
        if (index < 0 || index >= LETTER_COLUMNS || index > now.script.widthOf(letter)) {
            return INVALID_ARGUMENT;
        }
        history.keep(now);
        now.script.putColumn(letter, index, bits);
        return now.script.widthOf(letter);
    }

    // ---- messages

    public int addMessage(int first, int second) {
        if (first < 0 || first > GAP || second < NO_CHARACTER || second > GAP) {
            return INVALID_ARGUMENT;
        }
        if (now.script.messages >= MESSAGES) {
            return CAPACITY_EXCEEDED;
        }
        history.keep(now);
        now.script.startMessage();
        now.script.addCharacter(first);
        if (second != NO_CHARACTER) {
            now.script.addCharacter(second);
        }
        return now.script.messages - 1;
    }

    public int removeMessage(int message) {
        if (!now.script.hasMessage(message)) {
            return INVALID_ARGUMENT;
        }
        history.keep(now);
        now.script.dropMessage(message);
        return now.script.messages;
    }

    public int appendCharacter(int character) {
        if (character < 0 || character > MOST_CODE) {
            return INVALID_ARGUMENT;
        }
        if (textLength < 0 || textLength >= TEXT_LENGTH) {
            return CAPACITY_EXCEEDED;
        }
        text[textLength] = character;
        textLength++;
        return textLength;
    }

    public int clearText() {
        int previous = textLength;
        textLength = 0;
        return previous;
    }

    public int load() {
        int error = reader.errorIn(text, textLength, now.script);
        if (error != NO_ERROR) {
            return TEXT_ERROR - error;
        }
        history.keep(now);
        now.script.copyFrom(reader.draft);
        textLength = 0;
        return reader.items;
    }

    // ---- showing

    public int show(int message, int how) {
        if (!canShow(message, how)) {
            return INVALID_ARGUMENT;
        }
        history.keep(now);
        painter.drawAs(now, message, how);
        now.dots.aimAt(painter.picture);
        return now.dots.dueDots();
    }

    public int darken() {
        history.keep(now);
        now.dots.aimAtDark();
        return now.dots.dueDots();
    }

    public int jam(int column, int row) {
        if (!now.dots.hasDot(column, row)) {
            return INVALID_ARGUMENT;
        }
        if (now.dots.isStuck(column, row)) {
            return ILLEGAL_STATE;
        }
        history.keep(now);
        now.dots.stick(column, row);
        return now.dots.flipsOf(column, row);
    }

    public int mend(int column, int row) {
        if (!now.dots.hasDot(column, row)) {
            return INVALID_ARGUMENT;
        }
        history.keep(now);
        int wasStuck = now.dots.isStuck(column, row) ? 1 : 0;
        now.dots.renewDot(column, row);
        return wasStuck;
    }

    public int pass(int seconds) {
        if (seconds < 1 || seconds > MOST_PASSED) {
            return INVALID_ARGUMENT;
        }
        history.keep(now);
        for (int second = 0; second < seconds; second++) {
            flipper.passSecond(now);
        }
        return now.dots.dueDots();
    }

    // ---- looking

    public int count(int what) {
        switch (what) {
            case 0:
                return now.dots.width;
            case 1:
                return now.numbers[POWER];
            case 2:
                return now.numbers[ORDER];
            case 3:
                return now.numbers[LIFE];
            case 4:
                return now.script.messages;
            case 5:
                return now.dots.dueDots();
            case 6:
                return now.dots.stuckDots();
            case 7:
                return now.dots.knownDots();
            case 8:
                return now.dots.otherDots();
            case 9:
                return now.meter.flips;
            case 10:
                return now.meter.tries;
            case 11:
                return now.meter.power;
            case 12:
                return now.meter.seconds;
            case 13:
                return textLength;
            case 14:
                return history.size;
            default:
                return INVALID_ARGUMENT;
        }
    }

    public int column(int column, int what) {
        if (!now.dots.hasColumn(column)) {
            return INVALID_ARGUMENT;
        }
        switch (what) {
            case 0:
                return now.dots.shown[column];
            case 1:
                return now.dots.aim[column];
            case 2:
                return now.dots.stuck[column];
            case 3:
                return now.dots.known[column];
            default:
                return INVALID_ARGUMENT;
        }
    }

    public int flips(int column, int row) {
        if (!now.dots.hasDot(column, row)) {
            return INVALID_ARGUMENT;
        }
        return now.dots.flipsOf(column, row);
    }

    public int letter(int letter, int index) {
        if (letter < 0 || letter >= LETTERS || index < 0) {
            return INVALID_ARGUMENT;
        }
        if (index >= now.script.widthOf(letter)) {
            return NONE;
        }
        return now.script.columnOf(letter, index);
    }

    public int message(int message, int index) {
        if (!now.script.hasMessage(message) || index < 0) {
            return INVALID_ARGUMENT;
        }
        if (index >= now.script.lengthOf(message)) {
            return NONE;
        }
        return now.script.characterOf(message, index);
    }

    public int strip(int message) {
        if (!now.script.hasMessage(message)) {
            return INVALID_ARGUMENT;
        }
        return now.script.stripColumns(message);
    }

    public int picture(int message, int shift, int column) {
        if (!now.script.hasMessage(message) || !now.dots.hasColumn(column)) {
            return INVALID_ARGUMENT;
        }
        if (shift < -FARTHEST_SHIFT || shift > FARTHEST_SHIFT) {
            return INVALID_ARGUMENT;
        }
        painter.draw(now, message, shift, painter.picture);
        return painter.picture[column];
    }

    public int power(int ago) {
        if (ago < 1 || ago > RECENT_SECONDS) {
            return INVALID_ARGUMENT;
        }
        if (ago > now.meter.seconds) {
            return NONE;
        }
        return now.meter.powerOf(ago);
    }

    // ---- what would be (nothing changes)

    public int bestShift(int message) {
        if (!now.script.hasMessage(message)) {
            return INVALID_ARGUMENT;
        }
        return painter.bestShiftOf(now, message);
    }

    public int due(int message, int how) {
        if (!canShow(message, how)) {
            return INVALID_ARGUMENT;
        }
        painter.drawAs(now, message, how);
        return now.dots.differing(painter.picture, now.dots.shown);
    }

    public int secondsFor(int message, int how) {
        if (!canShow(message, how)) {
            return INVALID_ARGUMENT;
        }
        painter.drawAs(now, message, how);
        trial.copyFrom(now);
        trial.dots.aimAt(painter.picture);
        for (int seconds = 0; seconds <= MOST_FORESEEN; seconds++) {
            if (trial.dots.dueDots() == 0) {
                return seconds;
            }
            flipper.passSecond(trial);
        }
        return NONE;
    }

    public int between(int a, int b) {
        if (!now.script.hasMessage(a) || !now.script.hasMessage(b)) {
            return INVALID_ARGUMENT;
        }
        painter.draw(now, a, 0, painter.picture);
        painter.draw(now, b, 0, painter.otherPicture);
        return now.dots.differing(painter.picture, painter.otherPicture);
    }

    public int bestOrder(int messages, int what) {
        if (!isSetToOrder(messages) || what < 0 || what > ORDERED_MESSAGES) {
            return INVALID_ARGUMENT;
        }
        if (what > Integer.bitCount(messages)) {
            return NONE;
        }
        orders.find(now, messages, painter);
        return what == 0 ? orders.fewestFlips() : orders.messageAt(what);
    }

    public int undo() {
        if (history.size == 0) {
            return ILLEGAL_STATE;
        }
        history.restore(now);
        return history.size;
    }

    // ---- what several calls need

    private boolean canShow(int message, int how) {
        return now.script.hasMessage(message) && how >= 0 && how <= BEST_SHIFT;
    }

    private boolean isSetToOrder(int messages) {
        return messages > 0
            && messages < 1 << now.script.messages
            && Integer.bitCount(messages) <= ORDERED_MESSAGES;
    }

    private static void copy(int[] from, int[] to) {
        System.arraycopy(from, 0, to, 0, Math.min(from.length, to.length));
    }

    // The rows are as long as on the widest board, so that they can be used again;
    // what lies behind the width stays 0.
    private static final class Dots {
        int width = FIRST_COLUMNS;
        final int[] shown = new int[MOST_COLUMNS];
        final int[] aim = new int[MOST_COLUMNS];
        final int[] stuck = new int[MOST_COLUMNS];
        final int[] known = new int[MOST_COLUMNS];
        final int[] flips = new int[MOST_COLUMNS * ROWS];

        void copyFrom(Dots other) {
            width = other.width;
            copy(other.shown, shown);
            copy(other.aim, aim);
            copy(other.stuck, stuck);
            copy(other.known, known);
            copy(other.flips, flips);
        }

        void renew(int columns) {
            width = columns;
            Arrays.fill(shown, 0);
            Arrays.fill(aim, 0);
            Arrays.fill(stuck, 0);
            Arrays.fill(known, 0);
            Arrays.fill(flips, 0);
        }

        boolean hasColumn(int column) {
            return column >= 0 && column < width && column < MOST_COLUMNS;
        }

        boolean hasDot(int column, int row) {
            return hasColumn(column) && row >= 0 && row < ROWS;
        }

        void aimAt(int[] picture) {
            copy(picture, aim);
        }

        void aimAtDark() {
            Arrays.fill(aim, 0);
        }

        int dueBits(int column) {
            return hasColumn(column) ? (aim[column] ^ shown[column]) & ~known[column] : 0;
        }

        int dueDots() {
            return differing(aim, shown);
        }

        int differing(int[] picture, int[] other) {
            int dots = 0;
            for (int column = 0; column < MOST_COLUMNS; column++) {
                if (column < picture.length && column < other.length) {
                    int bits = picture[column] ^ other[column];
                    dots += Integer.bitCount(bits & ~known[column]);
                }
            }
            return dots;
        }

        int stuckDots() {
            return dotsIn(stuck);
        }

        int knownDots() {
            return dotsIn(known);
        }

        private static int dotsIn(int[] columns) {
            int dots = 0;
            for (int column = 0; column < columns.length; column++) {
                dots += Integer.bitCount(columns[column]);
            }
            return dots;
        }

        int otherDots() {
            int dots = 0;
            for (int column = 0; column < MOST_COLUMNS; column++) {
                dots += Integer.bitCount(aim[column] ^ shown[column]);
            }
            return dots;
        }

        int knownAgainst(int[] picture) {
            int dots = 0;
            for (int column = 0; column < MOST_COLUMNS && column < picture.length; column++) {
                int bits = picture[column] ^ shown[column];
                dots += Integer.bitCount(bits & known[column]);
            }
            return dots;
        }

        boolean isStuck(int column, int row) {
            return hasDot(column, row) && (stuck[column] & 1 << row) != 0;
        }

        void stick(int column, int row) {
            if (hasDot(column, row)) {
                stuck[column] |= 1 << row;
            }
        }

        void makeKnown(int column, int row) {
            if (hasDot(column, row)) {
                known[column] |= 1 << row;
            }
        }

        void flip(int column, int row) {
            if (hasDot(column, row)) {
                shown[column] ^= 1 << row;
                flips[column * ROWS + row]++;
            }
        }

        int flipsOf(int column, int row) {
            return hasDot(column, row) ? flips[column * ROWS + row] : 0;
        }

        void renewDot(int column, int row) {
            if (hasDot(column, row)) {
                stuck[column] &= ~(1 << row);
                known[column] &= ~(1 << row);
                flips[column * ROWS + row] = 0;
            }
        }
    }

    private static final class Meter {
        int flips = 0;
        int tries = 0;
        int power = 0;
        int seconds = 0;
        final int[] recent = new int[RECENT_SECONDS];

        void copyFrom(Meter other) {
            flips = other.flips;
            tries = other.tries;
            power = other.power;
            seconds = other.seconds;
            copy(other.recent, recent);
        }

        void renew() {
            flips = 0;
            tries = 0;
            power = 0;
            seconds = 0;
            Arrays.fill(recent, 0);
        }

        void addSecond(int used) {
            recent[Math.floorMod(seconds, RECENT_SECONDS)] = used;
            seconds++;
            power += used;
        }

        int powerOf(int ago) {
            return recent[Math.floorMod(seconds - ago, RECENT_SECONDS)];
        }
    }

    // Letters and messages.
    private static final class Script {
        final int[] columns = new int[LETTERS * LETTER_COLUMNS];
        final int[] widths = new int[LETTERS];
        final int[] characters = new int[MESSAGES * CHARACTERS];
        final int[] lengths = new int[MESSAGES];
        int messages = 0;

        void copyFrom(Script other) {
            copy(other.columns, columns);
            copy(other.widths, widths);
            copy(other.characters, characters);
            copy(other.lengths, lengths);
            messages = other.messages;
        }

        int widthOf(int character) {
            if (character == GAP) {
                return GAP_COLUMNS;
            }
            return isLetter(character) ? widths[character] : 0;
        }

        int columnOf(int character, int index) {
            boolean isThere = isLetter(character) && index >= 0 && index < LETTER_COLUMNS
                && index < widths[character];
            return isThere ? columns[character * LETTER_COLUMNS + index] : 0;
        }

        void putColumn(int letter, int index, int bits) {
            if (isLetter(letter) && index >= 0 && index < LETTER_COLUMNS) {
                columns[letter * LETTER_COLUMNS + index] = bits;
                widths[letter] = Math.max(widths[letter], index + 1);
            }
        }

        void clearLetter(int letter) {
            if (isLetter(letter)) {
                widths[letter] = 0;
            }
        }

        boolean isLetter(int character) {
            return character >= 0 && character < LETTERS;
        }

        boolean hasMessage(int message) {
            return message >= 0 && message < messages && message < MESSAGES;
        }

        int lengthOf(int message) {
            return hasMessage(message) ? lengths[message] : 0;
        }

        int characterOf(int message, int index) {
            boolean isThere = hasMessage(message) && index >= 0 && index < CHARACTERS;
            return isThere ? characters[message * CHARACTERS + index] : GAP;
        }

        void startMessage() {
            if (messages >= 0 && messages < MESSAGES) {
                lengths[messages] = 0;
                messages++;
            }
        }

        void addCharacter(int character) {
            int message = messages - 1;
            int length = lengthOf(message);
            if (hasMessage(message) && length >= 0 && length < CHARACTERS) {
                characters[message * CHARACTERS + length] = character;
                lengths[message] = length + 1;
            }
        }

        void dropMessage(int message) {
            if (!hasMessage(message)) {
                return;
            }
            for (int place = message; place + 1 < MESSAGES; place++) {
                lengths[place] = lengths[place + 1];
                for (int index = 0; index < CHARACTERS; index++) {
                    int from = (place + 1) * CHARACTERS + index;
                    characters[place * CHARACTERS + index] = characters[from];
                }
            }
            messages--;
        }

        int stripColumns(int message) {
            int length = lengthOf(message);
            int total = Math.max(length - 1, 0);
            for (int index = 0; index < length; index++) {
                total += widthOf(characterOf(message, index));
            }
            return total;
        }

        int stripBits(int message, int column) {
            int left = column;
            for (int index = 0; index < lengthOf(message) && left >= 0; index++) {
                int character = characterOf(message, index);
                int width = widthOf(character);
                if (left < width) {
                    return columnOf(character, left);
                }
                left -= width + 1;
            }
            return 0;
        }
    }

    // All that undo() brings back.
    private static final class State {
        final Dots dots = new Dots();
        final Meter meter = new Meter();
        final Script script = new Script();
        final int[] numbers = FIRST_NUMBERS.clone();

        void copyFrom(State other) {
            dots.copyFrom(other.dots);
            meter.copyFrom(other.meter);
            script.copyFrom(other.script);
            copy(other.numbers, numbers);
        }

        boolean hasNumber(int what) {
            return what >= 0 && what < numbers.length;
        }

        void tryDot(int column, int row) {
            if (dots.isStuck(column, row)) {
                dots.makeKnown(column, row);
                meter.tries++;
                return;
            }
            dots.flip(column, row);
            meter.flips++;
            if (dots.flipsOf(column, row) >= numbers[LIFE]) {
                dots.stick(column, row);
            }
        }
    }

    // A ring, so that the oldest state gives its place to the seventh.
    private static final class History {
        final State[] states = new State[SAVED_STATES];
        int first = 0;
        int size = 0;

        History() {
            for (int place = 0; place < SAVED_STATES; place++) {
                states[place] = new State();
            }
        }

        void keep(State state) {
            State place = stateAt(size);
            if (place != null) {
                place.copyFrom(state);
            }
            if (size < SAVED_STATES) {
                size++;
            } else {
                first = Math.floorMod(first + 1, SAVED_STATES);
            }
        }

        void restore(State state) {
            if (size <= 0) {
                return;
            }
            size--;
            State place = stateAt(size);
            if (place != null) {
                state.copyFrom(place);
            }
        }

        State stateAt(int index) {
            return states[Math.floorMod(first + index, SAVED_STATES)];
        }
    }

    private static final class Painter {
        final int[] picture = new int[MOST_COLUMNS];
        final int[] otherPicture = new int[MOST_COLUMNS];

        void draw(State state, int message, int shift, int[] onto) {
            int width = state.dots.width;
            int total = state.script.stripColumns(message);
            int start = total <= width ? (width - total) / 2 + shift : shift;
            for (int column = 0; column < onto.length; column++) {
                onto[column] = column < width ? state.script.stripBits(message, column - start) : 0;
            }
        }

        void drawAs(State state, int message, int how) {
            int shift = how == BEST_SHIFT ? bestShiftOf(state, message) : 0;
            draw(state, message, shift, picture);
        }

        int bestShiftOf(State state, int message) {
            int best = 0;
            int fewestAgainst = Integer.MAX_VALUE;
            int fewestDue = Integer.MAX_VALUE;
            for (int shift : SHIFTS) {
                draw(state, message, shift, picture);
                int against = state.dots.knownAgainst(picture);
                int due = state.dots.differing(picture, state.dots.shown);
                if (against < fewestAgainst || against == fewestAgainst && due < fewestDue) {
                    best = shift;
                    fewestAgainst = against;
                    fewestDue = due;
                }
            }
            return best;
        }
    }

    private static final class Flipper {
        final int[] sequence = new int[MOST_COLUMNS];

        void passSecond(State state) {
            int power = state.numbers[POWER];
            int left = power;
            arrange(state.dots, state.numbers[ORDER]);
            for (int place = 0; place < MOST_COLUMNS && left > 1; place++) {
                int column = sequence[place];
                if (state.dots.dueBits(column) != 0) {
                    left = flipColumn(state, column, left - 1);
                }
            }
            state.meter.addSecond(power - left);
        }

        private int flipColumn(State state, int column, int units) {
            int left = units;
            int due = state.dots.dueBits(column);
            for (int row = 0; row < ROWS && left > 0; row++) {
                if ((due & 1 << row) != 0) {
                    state.tryDot(column, row);
                    left--;
                }
            }
            return left;
        }

        private void arrange(Dots dots, int order) {
            if (order == BY_DUE_DOTS) {
                arrangeByDueDots(dots);
                return;
            }
            for (int place = 0; place < MOST_COLUMNS; place++) {
                sequence[place] = order == FROM_THE_RIGHT ? MOST_COLUMNS - 1 - place : place;
            }
        }

        private void arrangeByDueDots(Dots dots) {
            int place = 0;
            for (int due = ROWS; due >= 0; due--) {
                for (int column = 0; column < MOST_COLUMNS; column++) {
                    boolean isNext = Integer.bitCount(dots.dueBits(column)) == due;
                    if (isNext && place < MOST_COLUMNS) {
                        sequence[place] = column;
                        place++;
                    }
                }
            }
        }
    }

    // Reads onto a draft, so that a text with an error changes nothing.
    private static final class Reader {
        static final int ITEM = 0;
        static final int EQUALS_SIGN = 1;
        static final int FIRST_DIGIT = 2;
        static final int SECOND_DIGIT = 3;
        static final int CHARACTER = 4;
        static final int BASE = 16;
        static final int MOST_FIRST_DIGIT = 7;

        final Script draft = new Script();
        int items = 0;
        private int expected = ITEM;
        private int letter = 0;
        private int firstDigit = 0;

        int errorIn(int[] text, int length, Script script) {
            draft.copyFrom(script);
            items = 0;
            expected = ITEM;
            for (int offset = 0; offset < length && offset < text.length; offset++) {
                if (!takes(text[offset])) {
                    return offset;
                }
            }
            return expected == ITEM ? NO_ERROR : length;
        }

        private boolean takes(int code) {
            if (code == ' ') {
                return expected != SECOND_DIGIT;
            }
            switch (expected) {
                case ITEM:
                    return takesStart(code);
                case EQUALS_SIGN:
                    return takesEqualsSign(code);
                case FIRST_DIGIT:
                    return takesFirstDigit(code);
                case SECOND_DIGIT:
                    return takesSecondDigit(code);
                default:
                    return takesCharacter(code);
            }
        }

        private boolean takesStart(int code) {
            if (code == '>' && draft.messages < MESSAGES) {
                draft.startMessage();
                expected = CHARACTER;
                return true;
            }
            if (!isSmallLetter(code)) {
                return false;
            }
            letter = code - 'a';
            draft.clearLetter(letter);
            expected = EQUALS_SIGN;
            return true;
        }

        private boolean takesEqualsSign(int code) {
            if (code != '=') {
                return false;
            }
            expected = FIRST_DIGIT;
            return true;
        }

        private boolean takesFirstDigit(int code) {
            int columns = draft.widthOf(letter);
            if (code == ';' && columns > 0) {
                endItem();
                return true;
            }
            int digit = digitOf(code);
            if (columns >= LETTER_COLUMNS || digit < 0 || digit > MOST_FIRST_DIGIT) {
                return false;
            }
            firstDigit = digit;
            expected = SECOND_DIGIT;
            return true;
        }

        private boolean takesSecondDigit(int code) {
            int secondDigit = digitOf(code);
            if (secondDigit < 0) {
                return false;
            }
            draft.putColumn(letter, draft.widthOf(letter), firstDigit * BASE + secondDigit);
            expected = FIRST_DIGIT;
            return true;
        }

        private boolean takesCharacter(int code) {
            int length = draft.lengthOf(draft.messages - 1);
            if (code == ';' && length > 0) {
                endItem();
                return true;
            }
            if (length >= CHARACTERS || code != '_' && !isSmallLetter(code)) {
                return false;
            }
            draft.addCharacter(code == '_' ? GAP : code - 'a');
            return true;
        }

        private void endItem() {
            items++;
            expected = ITEM;
        }

        private static boolean isSmallLetter(int code) {
            return code >= 'a' && code <= 'z';
        }

        private static int digitOf(int code) {
            if (code >= '0' && code <= '9') {
                return code - '0';
            }
            return code >= 'a' && code <= 'f' ? code - 'a' + 10 : -1;
        }
    }

    // Row 0 stands for what the board shows now, row k for the k-th message of the set,
    // bit k - 1 of a subset for row k.
    private static final class Orders {
        static final int LINES = ORDERED_MESSAGES + 1;
        static final int SUBSETS = 1 << ORDERED_MESSAGES;

        final int[] members = new int[LINES];
        final int[][] pictures = new int[LINES][MOST_COLUMNS];
        final int[][] steps = new int[LINES][LINES];
        // the fewest flips for what is left of the set behind a row; 0 where nothing is left
        final int[][] fewest = new int[SUBSETS][LINES];
        private int size = 0;

        void find(State state, int messages, Painter painter) {
            gather(state, messages, painter);
            measure(state.dots);
            for (int left = 1; left < SUBSETS && left <= wholeSet(); left++) {
                for (int last = 0; last <= size && last < LINES; last++) {
                    fewest[left][last] = flipsBy(last, nextBehind(last, left), left);
                }
            }
        }

        int fewestFlips() {
            int all = wholeSet();
            return all >= 0 && all < SUBSETS ? fewest[all][0] : 0;
        }

        int messageAt(int place) {
            int left = wholeSet();
            int last = 0;
            for (int step = 0; step < place && step < size; step++) {
                last = nextBehind(last, left);
                left = without(left, last);
            }
            return last >= 0 && last < LINES ? members[last] : 0;
        }

        private void gather(State state, int messages, Painter painter) {
            size = 0;
            copy(state.dots.shown, pictures[0]);
            for (int message = 0; message < MESSAGES; message++) {
                if ((messages & 1 << message) != 0 && size < ORDERED_MESSAGES) {
                    size++;
                    members[size] = message;
                    painter.draw(state, message, 0, pictures[size]);
                }
            }
        }

        private void measure(Dots dots) {
            for (int from = 0; from <= size && from < LINES; from++) {
                for (int to = 0; to <= size && to < LINES; to++) {
                    steps[from][to] = dots.differing(pictures[from], pictures[to]);
                }
            }
        }

        // The members stand by their numbers, so the first of several is the smallest message.
        private int nextBehind(int last, int left) {
            int best = 0;
            int bestFlips = Integer.MAX_VALUE;
            for (int next = 1; next <= size; next++) {
                if (without(left, next) != left) {
                    int flips = flipsBy(last, next, left);
                    if (flips < bestFlips) {
                        best = next;
                        bestFlips = flips;
                    }
                }
            }
            return best;
        }

        private int flipsBy(int last, int next, int left) {
            int rest = without(left, next);
            boolean isKnown = last >= 0 && last < LINES && next >= 0 && next < LINES
                && rest >= 0 && rest < SUBSETS;
            return isKnown ? steps[last][next] + fewest[rest][next] : 0;
        }

        private int wholeSet() {
            return (1 << size) - 1;
        }

        private static int without(int subset, int row) {
            return row > 0 ? subset & ~(1 << row - 1) : subset;
        }
    }
}
