import java.util.ArrayDeque;
import java.util.ArrayList;
import java.util.Arrays;
import java.util.Comparator;
import java.util.Deque;
import java.util.List;

/**
 * The document once more, written another way: dot by dot, with texts and lists, every order tried.
 * ModelTest compares its answers with those of FlipBoard.
 */
final class Model implements Calls {
    private static final int INVALID = -1001;
    private static final int ILLEGAL = -1002;
    private static final int FULL = -1003;
    private static final int NONE = -1009;
    private static final String CHARACTERS = "abcdefghijklmnopqrstuvwxyz_";

    private static final class Dot {
        boolean shown;
        boolean aim;
        boolean stuck;
        boolean known;
        int flips;

        Dot copy() {
            Dot dot = new Dot();
            dot.shown = shown;
            dot.aim = aim;
            dot.stuck = stuck;
            dot.known = known;
            dot.flips = flips;
            return dot;
        }

        boolean isDue() {
            return aim != shown && !known;
        }
    }

    private static final class World {
        List<List<Dot>> dots = darkDots(20);
        List<List<Integer>> letters = new ArrayList<>();
        List<String> messages = new ArrayList<>();
        int[] numbers = {10, 0, 100};
        long flips;
        long tries;
        List<Integer> powers = new ArrayList<>();

        World() {
            for (int letter = 0; letter < 26; letter++) {
                letters.add(new ArrayList<>());
            }
        }

        World copy() {
            World world = new World();
            world.dots = new ArrayList<>();
            for (List<Dot> column : dots) {
                List<Dot> copies = new ArrayList<>();
                for (Dot dot : column) {
                    copies.add(dot.copy());
                }
                world.dots.add(copies);
            }
            for (int letter = 0; letter < 26; letter++) {
                world.letters.set(letter, new ArrayList<>(letters.get(letter)));
            }
            world.messages = new ArrayList<>(messages);
            world.numbers = numbers.clone();
            world.flips = flips;
            world.tries = tries;
            world.powers = new ArrayList<>(powers);
            return world;
        }

        static List<List<Dot>> darkDots(int columns) {
            List<List<Dot>> dots = new ArrayList<>();
            for (int column = 0; column < columns; column++) {
                List<Dot> rows = new ArrayList<>();
                for (int row = 0; row < 7; row++) {
                    rows.add(new Dot());
                }
                dots.add(rows);
            }
            return dots;
        }
    }

    private World world = new World();
    private final Deque<World> saved = new ArrayDeque<>();
    private String text = "";

    private void save() {
        saved.addLast(world.copy());
        if (saved.size() > 6) {
            saved.removeFirst();
        }
    }

    private static boolean within(int value, int least, int most) {
        return value >= least && value <= most;
    }

    private int width() {
        return world.dots.size();
    }

    private boolean noMessage(int message) {
        return !within(message, 0, world.messages.size() - 1);
    }

    private boolean noDot(int column, int row) {
        return !within(column, 0, width() - 1) || !within(row, 0, 6);
    }

    private Dot dot(int column, int row) {
        return world.dots.get(column).get(row);
    }

    @Override
    public int begin(int columns) {
        if (!within(columns, 6, 40)) {
            return INVALID;
        }
        save();
        int previous = width();
        world.dots = World.darkDots(columns);
        world.flips = 0;
        world.tries = 0;
        world.powers.clear();
        return previous;
    }

    @Override
    public int setNumber(int what, int value) {
        boolean right = what == 0 && within(value, 2, 50)
            || what == 1 && within(value, 0, 2)
            || what == 2 && within(value, 1, 200);
        if (!right) {
            return INVALID;
        }
        save();
        int previous = world.numbers[what];
        world.numbers[what] = value;
        return previous;
    }

    @Override
    public int setColumn(int letter, int index, int bits) {
        if (!within(letter, 0, 25) || !within(bits, 0, 127)
            || !within(index, 0, Math.min(4, world.letters.get(letter).size()))) {
            return INVALID;
        }
        save();
        List<Integer> columns = world.letters.get(letter);
        if (index == columns.size()) {
            columns.add(bits);
        } else {
            columns.set(index, bits);
        }
        return columns.size();
    }

    @Override
    public int addMessage(int first, int second) {
        if (!within(first, 0, 26) || !within(second, -1, 26)) {
            return INVALID;
        }
        if (world.messages.size() == 8) {
            return FULL;
        }
        save();
        String end = second == -1 ? "" : CHARACTERS.substring(second, second + 1);
        world.messages.add(CHARACTERS.charAt(first) + end);
        return world.messages.size() - 1;
    }

    @Override
    public int removeMessage(int message) {
        if (noMessage(message)) {
            return INVALID;
        }
        save();
        world.messages.remove(message);
        return world.messages.size();
    }

    @Override
    public int appendCharacter(int character) {
        if (!within(character, 0, 255)) {
            return INVALID;
        }
        if (text.length() == 120) {
            return FULL;
        }
        text += (char) character;
        return text.length();
    }

    @Override
    public int clearText() {
        int previous = text.length();
        text = "";
        return previous;
    }

    private int place;

    private static final class TextError extends Exception {
        private static final long serialVersionUID = 1;
    }

    private char next() throws TextError {
        while (place < text.length() && text.charAt(place) == ' ') {
            place++;
        }
        return digit();
    }

    private char digit() throws TextError {
        if (place == text.length()) {
            throw new TextError();
        }
        return text.charAt(place);
    }

    private void expect(boolean allowed) throws TextError {
        if (!allowed) {
            throw new TextError();
        }
        place++;
    }

    private void readLetter(World into) throws TextError {
        char name = next();
        expect(within(name, 'a', 'z'));
        char sign = next();
        expect(sign == '=');
        List<Integer> columns = new ArrayList<>();
        while (next() != ';' || columns.isEmpty()) {
            char high = next();
            expect(columns.size() < 5 && "01234567".indexOf(high) >= 0);
            char low = digit();
            expect("0123456789abcdef".indexOf(low) >= 0);
            columns.add(Integer.parseInt("" + high + low, 16));
        }
        place++;
        into.letters.set(name - 'a', columns);
    }

    private void readMessage(World into) throws TextError {
        expect(into.messages.size() < 8);
        String message = "";
        while (next() != ';' || message.isEmpty()) {
            char sign = next();
            expect(message.length() < 12 && CHARACTERS.indexOf(sign) >= 0);
            message += sign;
        }
        place++;
        into.messages.add(message);
    }

    @Override
    public int load() {
        World into = world.copy();
        int items = 0;
        place = 0;
        try {
            while (!text.substring(place).replace(" ", "").isEmpty()) {
                if (next() == '>') {
                    readMessage(into);
                } else {
                    readLetter(into);
                }
                items++;
            }
        } catch (TextError error) {
            return -2000 - place;
        }
        save();
        world = into;
        text = "";
        return items;
    }

    private List<Integer> stripOf(String message) {
        List<Integer> strip = new ArrayList<>();
        for (int index = 0; index < message.length(); index++) {
            if (index > 0) {
                strip.add(0);
            }
            char sign = message.charAt(index);
            strip.addAll(sign == '_' ? Arrays.asList(0, 0) : world.letters.get(sign - 'a'));
        }
        return strip;
    }

    private boolean[][] pictureOf(int message, int shift) {
        List<Integer> strip = stripOf(world.messages.get(message));
        int left = width() - strip.size();
        int start = left >= 0 ? left / 2 + shift : shift;
        boolean[][] picture = new boolean[width()][7];
        for (int index = 0; index < strip.size(); index++) {
            if (within(start + index, 0, width() - 1)) {
                for (int row = 0; row < 7; row++) {
                    picture[start + index][row] = (strip.get(index) >> row) % 2 == 1;
                }
            }
        }
        return picture;
    }

    private void aimAt(boolean[][] picture) {
        for (int column = 0; column < width(); column++) {
            for (int row = 0; row < 7; row++) {
                dot(column, row).aim = picture[column][row];
            }
        }
    }

    private boolean[][] shownPicture() {
        boolean[][] picture = new boolean[width()][7];
        for (int column = 0; column < width(); column++) {
            for (int row = 0; row < 7; row++) {
                picture[column][row] = dot(column, row).shown;
            }
        }
        return picture;
    }

    private int differing(boolean[][] a, boolean[][] b, boolean known) {
        int dots = 0;
        for (int column = 0; column < width(); column++) {
            for (int row = 0; row < 7; row++) {
                if (a[column][row] != b[column][row] && dot(column, row).known == known) {
                    dots++;
                }
            }
        }
        return dots;
    }

    private int dueDots() {
        int dots = 0;
        for (List<Dot> column : world.dots) {
            dots += (int) column.stream().filter(Dot::isDue).count();
        }
        return dots;
    }

    private boolean[][] pictureAs(int message, int how) {
        return pictureOf(message, how == 1 ? bestShift(message) : 0);
    }

    @Override
    public int show(int message, int how) {
        if (noMessage(message) || !within(how, 0, 1)) {
            return INVALID;
        }
        save();
        aimAt(pictureAs(message, how));
        return dueDots();
    }

    @Override
    public int darken() {
        save();
        aimAt(new boolean[width()][7]);
        return dueDots();
    }

    @Override
    public int jam(int column, int row) {
        if (noDot(column, row)) {
            return INVALID;
        }
        if (dot(column, row).stuck) {
            return ILLEGAL;
        }
        save();
        dot(column, row).stuck = true;
        return dot(column, row).flips;
    }

    @Override
    public int mend(int column, int row) {
        if (noDot(column, row)) {
            return INVALID;
        }
        save();
        Dot dot = dot(column, row);
        int was = dot.stuck ? 1 : 0;
        dot.stuck = false;
        dot.known = false;
        dot.flips = 0;
        return was;
    }

    private void passSecond() {
        List<List<Dot>> columns = new ArrayList<>(world.dots);
        columns.removeIf(column -> column.stream().noneMatch(Dot::isDue));
        if (world.numbers[1] == 1) {
            java.util.Collections.reverse(columns);
        }
        if (world.numbers[1] == 2) {
            columns.sort(Comparator.comparing(column -> -column.stream().filter(Dot::isDue).count()));
        }
        int used = 0;
        for (List<Dot> column : columns) {
            if (world.numbers[0] - used < 2) {
                break;
            }
            used++;
            for (Dot dot : column) {
                if (dot.isDue() && used < world.numbers[0]) {
                    used++;
                    tryDot(dot);
                }
            }
        }
        world.powers.add(used);
    }

    private void tryDot(Dot dot) {
        if (dot.stuck) {
            dot.known = true;
            world.tries++;
            return;
        }
        dot.shown = !dot.shown;
        dot.flips++;
        world.flips++;
        dot.stuck = dot.flips >= world.numbers[2];
    }

    @Override
    public int pass(int seconds) {
        if (!within(seconds, 1, 200)) {
            return INVALID;
        }
        save();
        for (int second = 0; second < seconds; second++) {
            passSecond();
        }
        return dueDots();
    }

    @Override
    public int count(int what) {
        if (!within(what, 0, 14)) {
            return INVALID;
        }
        int stuck = 0;
        int known = 0;
        int other = 0;
        for (List<Dot> column : world.dots) {
            for (Dot dot : column) {
                stuck += dot.stuck ? 1 : 0;
                known += dot.known ? 1 : 0;
                other += dot.aim != dot.shown ? 1 : 0;
            }
        }
        int power = world.powers.stream().mapToInt(Integer::intValue).sum();
        int[] counts = {
            width(), world.numbers[0], world.numbers[1], world.numbers[2], world.messages.size(),
            dueDots(), stuck, known, other, (int) world.flips, (int) world.tries, power,
            world.powers.size(), text.length(), saved.size(),
        };
        return counts[what];
    }

    @Override
    public int column(int column, int what) {
        if (!within(column, 0, width() - 1) || !within(what, 0, 3)) {
            return INVALID;
        }
        int bits = 0;
        for (int row = 6; row >= 0; row--) {
            Dot dot = dot(column, row);
            boolean[] sides = {dot.shown, dot.aim, dot.stuck, dot.known};
            bits = 2 * bits + (sides[what] ? 1 : 0);
        }
        return bits;
    }

    @Override
    public int flips(int column, int row) {
        return noDot(column, row) ? INVALID : dot(column, row).flips;
    }

    @Override
    public int letter(int letter, int index) {
        if (!within(letter, 0, 25) || index < 0) {
            return INVALID;
        }
        List<Integer> columns = world.letters.get(letter);
        return index < columns.size() ? columns.get(index) : NONE;
    }

    @Override
    public int message(int message, int index) {
        if (noMessage(message) || index < 0) {
            return INVALID;
        }
        String characters = world.messages.get(message);
        return index < characters.length() ? CHARACTERS.indexOf(characters.charAt(index)) : NONE;
    }

    @Override
    public int strip(int message) {
        return noMessage(message) ? INVALID : stripOf(world.messages.get(message)).size();
    }

    @Override
    public int picture(int message, int shift, int column) {
        if (noMessage(message) || !within(shift, -2, 2) || !within(column, 0, width() - 1)) {
            return INVALID;
        }
        int bits = 0;
        for (int row = 6; row >= 0; row--) {
            bits = 2 * bits + (pictureOf(message, shift)[column][row] ? 1 : 0);
        }
        return bits;
    }

    @Override
    public int power(int ago) {
        if (!within(ago, 1, 20)) {
            return INVALID;
        }
        int seconds = world.powers.size();
        return ago > seconds ? NONE : world.powers.get(seconds - ago);
    }

    @Override
    public int bestShift(int message) {
        if (noMessage(message)) {
            return INVALID;
        }
        List<Integer> shifts = new ArrayList<>(List.of(-2, -1, 0, 1, 2));
        boolean[][] shown = shownPicture();
        shifts.sort(Comparator
            .comparing((Integer shift) -> differing(pictureOf(message, shift), shown, true))
            .thenComparing(shift -> differing(pictureOf(message, shift), shown, false))
            .thenComparing(shift -> Math.abs(shift))
            .thenComparing(shift -> shift));
        return shifts.get(0);
    }

    @Override
    public int due(int message, int how) {
        if (noMessage(message) || !within(how, 0, 1)) {
            return INVALID;
        }
        return differing(pictureAs(message, how), shownPicture(), false);
    }

    @Override
    public int secondsFor(int message, int how) {
        if (noMessage(message) || !within(how, 0, 1)) {
            return INVALID;
        }
        World kept = world;
        world = world.copy();
        aimAt(pictureAs(message, how));
        int seconds = 0;
        while (dueDots() > 0 && seconds <= 300) {
            passSecond();
            seconds++;
        }
        world = kept;
        return seconds <= 300 ? seconds : NONE;
    }

    @Override
    public int between(int a, int b) {
        if (noMessage(a) || noMessage(b)) {
            return INVALID;
        }
        return differing(pictureOf(a, 0), pictureOf(b, 0), false);
    }

    @Override
    public int bestOrder(int messages, int what) {
        List<Integer> members = new ArrayList<>();
        for (int bit = 0; bit < 32; bit++) {
            if ((messages >>> bit) % 2 == 1) {
                members.add(bit);
            }
        }
        boolean right = within(members.size(), 1, 5) && messages > 0 && within(what, 0, 5);
        if (!right || members.get(members.size() - 1) >= world.messages.size()) {
            return INVALID;
        }
        if (what > members.size()) {
            return NONE;
        }
        bestFlips = Integer.MAX_VALUE;
        tryOrders(shownPicture(), 0, new ArrayList<>(), members);
        return what == 0 ? bestFlips : bestMembers.get(what - 1);
    }

    private int bestFlips;
    private List<Integer> bestMembers;

    private void tryOrders(boolean[][] shown, int flips, List<Integer> order, List<Integer> left) {
        if (left.isEmpty() && flips < bestFlips) {
            bestFlips = flips;
            bestMembers = new ArrayList<>(order);
        }
        for (Integer member : left) {
            boolean[][] picture = pictureOf(member, 0);
            List<Integer> rest = new ArrayList<>(left);
            rest.remove(member);
            order.add(member);
            tryOrders(picture, flips + differing(shown, picture, false), order, rest);
            order.remove(order.size() - 1);
        }
    }

    @Override
    public int undo() {
        if (saved.isEmpty()) {
            return ILLEGAL;
        }
        world = saved.removeLast();
        return saved.size();
    }
}
