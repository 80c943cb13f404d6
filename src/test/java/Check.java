/** Counts answers that are due and tells those that are not. */
final class Check {
    private static final int MOST_TOLD = 50;
    private static int right = 0;
    private static int wrong = 0;
    private static String heading = "";

    private Check() {
    }

    /** What follows is told with this heading, until there is another. */
    static void under(String words) {
        heading = words.isEmpty() ? "" : words + ": ";
    }

    static int answers() {
        return right + wrong;
    }

    static void due(String call, long got, long want) {
        if (got == want) {
            right++;
            return;
        }
        wrong++;
        if (wrong <= MOST_TOLD) {
            System.out.println(heading + call + " answered " + got + ", due is " + want);
        }
    }

    static void that(String what, boolean holds) {
        due(what, holds ? 1 : 0, 1);
    }

    /** Two rows of words that are to be alike; tells the first that is not. */
    static void same(String what, String got, String want) {
        String[] words = got.split(" ");
        String[] others = want.split(" ");
        int place = 0;
        while (place < words.length && place < others.length && words[place].equals(others[place])) {
            place++;
        }
        boolean alike = place == words.length && place == others.length;
        that(alike ? what : what + ", from word " + place + " on", alike);
    }

    static void end() {
        System.out.println(right + " answers as due, " + wrong + " not");
        if (wrong != 0 || right == 0) {
            System.exit(1);
        }
    }
}
