/** What a FlipBoard and its model have in common: each call, by its name or by its promise's number. */
interface Calls {
    int BEGIN = 2;
    int SET_NUMBER = 3;
    int SET_COLUMN = 4;
    int ADD_MESSAGE = 5;
    int REMOVE_MESSAGE = 6;
    int APPEND_CHARACTER = 7;
    int CLEAR_TEXT = 8;
    int LOAD = 9;
    int SHOW = 10;
    int DARKEN = 11;
    int JAM = 12;
    int MEND = 13;
    int PASS = 14;
    int COUNT = 15;
    int COLUMN = 16;
    int FLIPS = 17;
    int LETTER = 18;
    int MESSAGE = 19;
    int STRIP = 20;
    int PICTURE = 21;
    int POWER = 22;
    int BEST_SHIFT = 23;
    int DUE = 24;
    int SECONDS_FOR = 25;
    int BETWEEN = 26;
    int BEST_ORDER = 27;
    int UNDO = 28;

    int begin(int columns);

    int setNumber(int what, int value);

    int setColumn(int letter, int index, int bits);

    int addMessage(int first, int second);

    int removeMessage(int message);

    int appendCharacter(int character);

    int clearText();

    int load();

    int show(int message, int how);

    int darken();

    int jam(int column, int row);

    int mend(int column, int row);

    int pass(int seconds);

    int count(int what);

    int column(int column, int what);

    int flips(int column, int row);

    int letter(int letter, int index);

    int message(int message, int index);

    int strip(int message);

    int picture(int message, int shift, int column);

    int power(int ago);

    int bestShift(int message);

    int due(int message, int how);

    int secondsFor(int message, int how);

    int between(int a, int b);

    int bestOrder(int messages, int what);

    int undo();

    /** Arguments that the call does not have are passed over. */
    default int call(int promise, int a, int b, int c) {
        switch (promise) {
            case BEGIN: return begin(a);
            case SET_NUMBER: return setNumber(a, b);
            case SET_COLUMN: return setColumn(a, b, c);
            case ADD_MESSAGE: return addMessage(a, b);
            case REMOVE_MESSAGE: return removeMessage(a);
            case APPEND_CHARACTER: return appendCharacter(a);
            case CLEAR_TEXT: return clearText();
            case LOAD: return load();
            case SHOW: return show(a, b);
            case DARKEN: return darken();
            case JAM: return jam(a, b);
            case MEND: return mend(a, b);
            case PASS: return pass(a);
            case COUNT: return count(a);
            case COLUMN: return column(a, b);
            case FLIPS: return flips(a, b);
            case LETTER: return letter(a, b);
            case MESSAGE: return message(a, b);
            case STRIP: return strip(a);
            case PICTURE: return picture(a, b, c);
            case POWER: return power(a);
            case BEST_SHIFT: return bestShift(a);
            case DUE: return due(a, b);
            case SECONDS_FOR: return secondsFor(a, b);
            case BETWEEN: return between(a, b);
            case BEST_ORDER: return bestOrder(a, b);
            case UNDO: return undo();
            default: throw new IllegalArgumentException("no promise " + promise);
        }
    }
}
