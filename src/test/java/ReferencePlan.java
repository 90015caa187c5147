import java.util.ArrayDeque;
import java.util.ArrayList;
import java.util.Deque;
import java.util.HashSet;
import java.util.LinkedHashMap;
import java.util.LinkedHashSet;
import java.util.List;
import java.util.Map;
import java.util.PriorityQueue;
import java.util.Set;
import java.util.TreeMap;
import java.util.TreeSet;
import java.util.regex.Matcher;
import java.util.regex.Pattern;

/**
 * The document once more, told as plainly as sets and lists can tell it and sharing nothing with the program, so
 * that the two can be compared: ways are searched forwards with all their places at hand, doors are compared each
 * with each, texts are read by a pattern.
 */
final class ReferencePlan {
    static final int NONE = -1;

    private static final Pattern ORDERS = ordersPattern();

    /** A chamber, or the squares of a walker. */
    record Box(int x, int y, int columns, int rows) {
        Set<Integer> squares() {
            Set<Integer> squares = new TreeSet<>();
            for (int j = y; j < y + rows; j++) {
                for (int i = x; i < x + columns; i++) {
                    squares.add(16 * j + i);
                }
            }
            return squares;
        }
    }

    record Door(int chamber, int x, int y, int stepX, int stepY) {
    }

    record Way(int cost, List<Integer> places) {
    }

    private static final class State {
        final Set<Integer> dug = new TreeSet<>();
        final TreeMap<Integer, Box> chambers = new TreeMap<>();
        final Map<Set<Integer>, Integer> walkers = new LinkedHashMap<>();
        int far = 2;

        State copy() {
            State copy = new State();
            copy.dug.addAll(dug);
            copy.chambers.putAll(chambers);
            copy.walkers.putAll(walkers);
            copy.far = far;
            return copy;
        }
    }

    private State now = new State();
    private final Deque<State> saved = new ArrayDeque<>();
    private String buffer = "";

    // ---- chambers

    int room(int x, int y, int columns, int rows) {
        if (columns < 1 || columns > 6 || rows < 1 || rows > 6) {
            throw new IllegalArgumentException();
        }
        if (x < 0 || y < 0 || (long) x + columns > 16 || (long) y + rows > 12) {
            throw new IllegalArgumentException();
        }
        if (now.chambers.size() == 6) {
            throw new IllegalStateException();
        }
        Box box = new Box(x, y, columns, rows);
        for (int square : box.squares()) {
            if (what(now, square) != -2) {
                throw new IllegalStateException();
            }
            for (int beside : besides(square)) {
                if (what(now, beside) >= 0) {
                    throw new IllegalStateException();
                }
            }
        }
        save();
        int number = 0;
        while (now.chambers.containsKey(number)) {
            number++;
        }
        now.chambers.put(number, box);
        return number;
    }

    int give(int room) {
        require(room);
        save();
        return giveIn(now, room);
    }

    private static int giveIn(State state, int room) {
        Set<Integer> squares = state.chambers.remove(room).squares();
        state.dug.addAll(squares);
        state.walkers.keySet().removeIf(pair -> pair.contains(room));
        return squares.size();
    }

    int walk(int one, int other, int width) {
        requireTwo(one, other);
        if (width < 0 || width > 3) {
            throw new IllegalArgumentException();
        }
        save();
        return walkIn(now, one, other, width);
    }

    private static int walkIn(State state, int one, int other, int width) {
        Integer before = state.walkers.remove(Set.of(one, other));
        if (width > 0) {
            state.walkers.put(Set.of(one, other), width);
        }
        return before == null ? 0 : before;
    }

    // ---- digging

    int dig(int x, int y) {
        requireSquare(x, y);
        if (what(now, 16 * y + x) >= 0) {
            throw new IllegalStateException();
        }
        save();
        flip(now, 16 * y + x);
        return now.dug.contains(16 * y + x) ? 1 : 0;
    }

    private static void flip(State state, int square) {
        if (!state.dug.remove(square)) {
            state.dug.add(square);
        }
    }

    int carve(int one, int other) {
        requireTwo(one, other);
        if (least(now, one, other) == null) {
            throw new IllegalStateException();
        }
        save();
        return carveIn(now, one, other);
    }

    private static int carveIn(State state, int one, int other) {
        int before = state.dug.size();
        state.dug.addAll(squaresOf(state, one, other));
        return state.dug.size() - before;
    }

    private static Set<Integer> squaresOf(State state, int one, int other) {
        Set<Integer> squares = new TreeSet<>();
        int width = Math.max(1, width(state, one, other));
        for (int place : least(state, one, other).places()) {
            squares.addAll(new Box(place % 16, place / 16, width, width).squares());
        }
        return squares;
    }

    int carveAll() {
        save();
        return carveAllIn(now);
    }

    private static int carveAllIn(State state) {
        int ways = 0;
        while (true) {
            int[] best = null;
            for (int[] pair : walkedPairs(state)) {
                Way way = least(state, pair[0], pair[1]);
                if (way != null && way.cost() > 0
                        && (best == null || way.cost() < least(state, best[0], best[1]).cost())) {
                    best = pair;
                }
            }
            if (best == null) {
                return ways;
            }
            carveIn(state, best[0], best[1]);
            ways++;
        }
    }

    int fillUp() {
        save();
        Set<Integer> stay = new HashSet<>();
        for (int[] pair : walkedPairs(now)) {
            if (isOpen(now, pair)) {
                stay.addAll(squaresOf(now, pair[0], pair[1]));
            }
        }
        int before = now.dug.size();
        now.dug.retainAll(stay);
        return before - now.dug.size();
    }

    int set(int far) {
        if (far < 0 || far > 9) {
            throw new IllegalArgumentException();
        }
        save();
        int before = now.far;
        now.far = far;
        return before;
    }

    // ---- texts

    int append(int code) {
        if (code < 33 || code > 126) {
            throw new IllegalArgumentException();
        }
        if (buffer.length() == 60) {
            throw new IllegalStateException();
        }
        buffer += (char) code;
        return buffer.length();
    }

    int clearBuffer() {
        int before = buffer.length();
        buffer = "";
        return before;
    }

    int firstError() {
        for (int length = 1; length <= buffer.length(); length++) {
            Matcher matcher = ORDERS.matcher(buffer.substring(0, length));
            if (!matcher.matches() && !matcher.hitEnd()) {
                return length - 1;
            }
        }
        return buffer.length();
    }

    int run() {
        if (!ORDERS.matcher(buffer).matches()) {
            throw new IllegalArgumentException();
        }
        save();
        int done = 0;
        for (String order : buffer.split(";")) {
            int one = order.charAt(0) - 'A';
            int other = order.charAt(1) - 'A';
            String deed = order.substring(3);
            if (!now.chambers.containsKey(one) || !now.chambers.containsKey(other)
                    || deed.equals("!") && least(now, one, other) == null) {
                break;
            }
            if (deed.equals("!")) {
                carveIn(now, one, other);
            } else {
                walkIn(now, one, other, List.of("none", "one", "pair", "cart").indexOf(deed));
            }
            done++;
        }
        buffer = "";
        return done;
    }

    int undo() {
        if (saved.isEmpty()) {
            throw new IllegalStateException();
        }
        now = saved.removeLast();
        return saved.size();
    }

    // ---- looks

    int square(int x, int y, int what) {
        requireSquare(x, y);
        if (what < 0 || what > 1) {
            throw new IllegalArgumentException();
        }
        if (what == 0) {
            return what(now, 16 * y + x);
        }
        return (int) doors(now).stream().filter(door -> door.x() == x && door.y() == y).count();
    }

    int chamber(int room, int what) {
        require(room);
        Box box = now.chambers.get(room);
        switch (what) {
            case 0: return box.x();
            case 1: return box.y();
            case 2: return box.columns();
            case 3: return box.rows();
            case 4: return (int) doors(now).stream().filter(door -> door.chamber() == room).count();
            case 5: return facingDoors(room);
            case 6: return (int) now.walkers.keySet().stream().filter(pair -> pair.contains(room)).count();
            case 7: return (int) walkedPairs(now).stream()
                    .filter(pair -> (pair[0] == room || pair[1] == room) && !isOpen(now, pair)).count();
            default: throw new IllegalArgumentException();
        }
    }

    private int facingDoors(int room) {
        int facing = 0;
        List<Door> doors = doors(now);
        for (Door door : doors) {
            if (door.chamber() == room && doors.stream().anyMatch(other -> face(now, door, other))) {
                facing++;
            }
        }
        return facing;
    }

    int way(int one, int other, int what) {
        requireTwo(one, other);
        if (what < 0 || what > 4) {
            throw new IllegalArgumentException();
        }
        if (what == 4) {
            return width(now, one, other);
        }
        Way way = least(now, one, other);
        if (way == null) {
            return NONE;
        }
        switch (what) {
            case 0: return way.cost();
            case 1: return way.places().size();
            case 2: return way.places().get(0);
            default: return way.places().get(way.places().size() - 1);
        }
    }

    int count(int what) {
        switch (what) {
            case 0: return now.chambers.size();
            case 1: return now.dug.size();
            case 2: return 192 - now.dug.size()
                    - now.chambers.values().stream().mapToInt(box -> box.columns() * box.rows()).sum();
            case 3: return now.walkers.size();
            case 4: return closed(now);
            case 5: return doors(now).size();
            case 6: return facingPairs(now);
            case 7: return missing(now);
            case 8: return saved.size();
            default: throw new IllegalArgumentException();
        }
    }

    // ---- what would be

    int ifDug(int x, int y, int what) {
        requireSquare(x, y);
        if (what < 0 || what > 2) {
            throw new IllegalArgumentException();
        }
        if (what(now, 16 * y + x) >= 0) {
            return NONE;
        }
        State then = now.copy();
        flip(then, 16 * y + x);
        return what == 0 ? closed(then) : what == 1 ? facingPairs(then) : missing(then);
    }

    int ifGiven(int room) {
        require(room);
        State then = now.copy();
        giveIn(then, room);
        return missing(then);
    }

    int allCost() {
        State then = now.copy();
        carveAllIn(then);
        return then.dug.size() - now.dug.size();
    }

    double openShare() {
        int walked = now.walkers.size();
        return walked == 0 ? 1.0 : (double) (walked - closed(now)) / walked;
    }

    long digest() {
        long hash = 2857;
        for (long value : digested()) {
            hash = 31 * hash + value;
        }
        return hash;
    }

    private List<Long> digested() {
        List<Long> values = new ArrayList<>();
        for (int what = 0; what <= 8; what++) {
            values.add((long) count(what));
        }
        values.add((long) now.far);
        for (int square = 0; square < 192; square++) {
            values.add((long) square(square % 16, square / 16, 0));
            if (now.dug.contains(square)) {
                values.add((long) square(square % 16, square / 16, 1));
            }
        }
        for (int room : now.chambers.keySet()) {
            values.add((long) room);
            for (int what = 0; what <= 7; what++) {
                values.add((long) chamber(room, what));
            }
        }
        for (int one : now.chambers.keySet()) {
            for (int other : now.chambers.tailMap(one, false).keySet()) {
                for (int what = 0; what <= 4; what++) {
                    values.add((long) way(one, other, what));
                }
            }
        }
        for (int what = 0; what <= 2; what++) {
            values.add((long) ifDug(8, 6, what));
        }
        if (!now.chambers.isEmpty()) {
            values.add((long) ifGiven(now.chambers.firstKey()));
        }
        values.add((long) allCost());
        values.add(Double.doubleToLongBits(openShare()));
        values.add((long) buffer.length());
        for (char code : buffer.toCharArray()) {
            values.add((long) code);
        }
        return values;
    }

    // ---- what the terms say

    private void save() {
        saved.addLast(now.copy());
        if (saved.size() > 6) {
            saved.removeFirst();
        }
    }

    private void require(int room) {
        if (!now.chambers.containsKey(room)) {
            throw new IndexOutOfBoundsException();
        }
    }

    private void requireTwo(int one, int other) {
        require(one);
        require(other);
        if (one == other) {
            throw new IllegalArgumentException();
        }
    }

    private static void requireSquare(int x, int y) {
        if (x < 0 || x > 15 || y < 0 || y > 11) {
            throw new IllegalArgumentException();
        }
    }

    private static int what(State state, int square) {
        for (Map.Entry<Integer, Box> entry : state.chambers.entrySet()) {
            if (entry.getValue().squares().contains(square)) {
                return entry.getKey();
            }
        }
        return state.dug.contains(square) ? -1 : -2;
    }

    /** The squares beside a square, by ascending numbers. */
    private static List<Integer> besides(int square) {
        List<Integer> besides = new ArrayList<>();
        if (square / 16 > 0) {
            besides.add(square - 16);
        }
        if (square % 16 > 0) {
            besides.add(square - 1);
        }
        if (square % 16 < 15) {
            besides.add(square + 1);
        }
        if (square / 16 < 11) {
            besides.add(square + 16);
        }
        return besides;
    }

    private static int width(State state, int one, int other) {
        return state.walkers.getOrDefault(Set.of(one, other), 0);
    }

    private static List<int[]> walkedPairs(State state) {
        List<int[]> pairs = new ArrayList<>();
        for (int one : state.chambers.keySet()) {
            for (int other : state.chambers.tailMap(one, false).keySet()) {
                if (width(state, one, other) > 0) {
                    pairs.add(new int[] {one, other});
                }
            }
        }
        return pairs;
    }

    private static boolean isOpen(State state, int[] pair) {
        Way way = least(state, pair[0], pair[1]);
        return way != null && way.cost() == 0;
    }

    private static int closed(State state) {
        return (int) walkedPairs(state).stream().filter(pair -> !isOpen(state, pair)).count();
    }

    private static int missing(State state) {
        int sum = 0;
        for (int[] pair : walkedPairs(state)) {
            Way way = least(state, pair[0], pair[1]);
            sum += way == null ? 0 : way.cost();
        }
        return sum;
    }

    private static Way least(State state, int one, int other) {
        int width = Math.max(1, width(state, one, other));
        Map<Integer, Set<Integer>> places = new TreeMap<>();
        for (int y = 0; y + width <= 12; y++) {
            for (int x = 0; x + width <= 16; x++) {
                Set<Integer> squares = new Box(x, y, width, width).squares();
                if (squares.stream().allMatch(square -> what(state, square) < 0)) {
                    places.put(16 * y + x, squares);
                }
            }
        }
        Set<Integer> former = placesAt(places, state.chambers.get(one));
        Set<Integer> latter = placesAt(places, state.chambers.get(other));
        PriorityQueue<Way> ways = new PriorityQueue<>(ReferencePlan::compareWays);
        for (int place : former) {
            ways.add(new Way(rock(state, places.get(place), Set.of()), List.of(place)));
        }
        Set<Integer> settled = new HashSet<>();
        while (!ways.isEmpty()) {
            Way way = ways.remove();
            int last = way.places().get(way.places().size() - 1);
            if (!settled.add(last)) {
                continue;
            }
            if (latter.contains(last)) {
                return way;
            }
            for (int next : besides(last)) {
                if (places.containsKey(next) && !settled.contains(next)) {
                    List<Integer> longer = new ArrayList<>(way.places());
                    longer.add(next);
                    ways.add(new Way(way.cost() + rock(state, places.get(next), places.get(last)), longer));
                }
            }
        }
        return null;
    }

    private static int compareWays(Way one, Way other) {
        if (one.cost() != other.cost()) {
            return Integer.compare(one.cost(), other.cost());
        }
        if (one.places().size() != other.places().size()) {
            return Integer.compare(one.places().size(), other.places().size());
        }
        for (int i = 0; i < one.places().size(); i++) {
            if (!one.places().get(i).equals(other.places().get(i))) {
                return Integer.compare(one.places().get(i), other.places().get(i));
            }
        }
        return 0;
    }

    private static Set<Integer> placesAt(Map<Integer, Set<Integer>> places, Box chamber) {
        Set<Integer> around = new HashSet<>();
        for (int square : chamber.squares()) {
            around.addAll(besides(square));
        }
        Set<Integer> found = new LinkedHashSet<>();
        for (Map.Entry<Integer, Set<Integer>> place : places.entrySet()) {
            if (place.getValue().stream().anyMatch(around::contains)) {
                found.add(place.getKey());
            }
        }
        return found;
    }

    private static int rock(State state, Set<Integer> squares, Set<Integer> without) {
        return (int) squares.stream().filter(square -> what(state, square) == -2 && !without.contains(square)).count();
    }

    private static List<Door> doors(State state) {
        List<Door> doors = new ArrayList<>();
        for (Map.Entry<Integer, Box> chamber : state.chambers.entrySet()) {
            for (int square : chamber.getValue().squares()) {
                for (int beside : besides(square)) {
                    if (state.dug.contains(beside)) {
                        doors.add(new Door(chamber.getKey(), beside % 16, beside / 16,
                                beside % 16 - square % 16, beside / 16 - square / 16));
                    }
                }
            }
        }
        return doors;
    }

    private static boolean face(State state, Door one, Door other) {
        if (one.chamber() == other.chamber() || one.stepX() != -other.stepX() || one.stepY() != -other.stepY()) {
            return false;
        }
        for (int farther = 0; farther <= state.far; farther++) {
            int x = one.x() + farther * one.stepX();
            int y = one.y() + farther * one.stepY();
            if (x < 0 || x > 15 || y < 0 || y > 11 || !state.dug.contains(16 * y + x)) {
                return false;
            }
            if (x == other.x() && y == other.y()) {
                return true;
            }
        }
        return false;
    }

    private static int facingPairs(State state) {
        List<Door> doors = doors(state);
        int pairs = 0;
        for (int i = 0; i < doors.size(); i++) {
            for (int j = i + 1; j < doors.size(); j++) {
                if (face(state, doors.get(i), doors.get(j))) {
                    pairs++;
                }
            }
        }
        return pairs;
    }

    private static Pattern ordersPattern() {
        StringBuilder letters = new StringBuilder();
        for (char one = 'A'; one <= 'F'; one++) {
            letters.append(one == 'A' ? "" : "|").append(one).append('[')
                    .append("ABCDEF".replace(String.valueOf(one), "")).append(']');
        }
        String order = "(" + letters + "):(none|one|pair|cart|!)";
        return Pattern.compile(order + "(;" + order + ")*");
    }
}
