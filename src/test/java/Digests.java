import java.util.ArrayList;
import java.util.List;

/** The hash of promise 23, told once more by what the looks answer. */
final class Digests {
    private Digests() {
    }

    static long of(CorridorPlan plan, int far, String buffer) {
        return hash(valuesOf(plan, far, buffer));
    }

    static long hash(List<Long> values) {
        long hash = 2857;
        for (long value : values) {
            hash = 31 * hash + value;
        }
        return hash;
    }

    private static List<Long> valuesOf(CorridorPlan plan, int far, String buffer) {
        List<Long> values = new ArrayList<>();
        for (int what = 0; what <= 8; what++) {
            values.add((long) plan.count(what));
        }
        values.add((long) far);
        List<Integer> chambers = addSquares(values, plan);
        for (int room : chambers) {
            values.add((long) room);
            for (int what = 0; what <= 7; what++) {
                values.add((long) plan.chamber(room, what));
            }
        }
        for (int one : chambers) {
            for (int other : chambers) {
                for (int what = 0; one < other && what <= 4; what++) {
                    values.add((long) plan.way(one, other, what));
                }
            }
        }
        for (int what = 0; what <= 2; what++) {
            values.add((long) plan.ifDug(8, 6, what));
        }
        if (!chambers.isEmpty()) {
            values.add((long) plan.ifGiven(chambers.get(0)));
        }
        values.add((long) plan.allCost());
        values.add(Double.doubleToLongBits(plan.openShare()));
        values.add((long) buffer.length());
        for (char code : buffer.toCharArray()) {
            values.add((long) code);
        }
        return values;
    }

    /** Answers the chambers that the squares belong to, by ascending numbers. */
    private static List<Integer> addSquares(List<Long> values, CorridorPlan plan) {
        List<Integer> chambers = new ArrayList<>();
        for (int square = 0; square < 192; square++) {
            int what = plan.square(square % 16, square / 16, 0);
            values.add((long) what);
            if (what == -1) {
                values.add((long) plan.square(square % 16, square / 16, 1));
            } else if (what >= 0 && !chambers.contains(what)) {
                chambers.add(what);
            }
        }
        chambers.sort(null);
        return chambers;
    }
}
