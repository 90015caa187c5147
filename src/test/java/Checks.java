import java.lang.reflect.InvocationTargetException;
import java.lang.reflect.Method;
import java.util.Arrays;
import java.util.Comparator;
import java.util.Objects;

/** How the tests tell what is due, and the plans that several of them use. */
final class Checks {
    static final Class<?> OUT_OF_BOUNDS = IndexOutOfBoundsException.class;
    static final Class<?> ILLEGAL_ARGUMENT = IllegalArgumentException.class;
    static final Class<?> ILLEGAL_STATE = IllegalStateException.class;
    static final int LEAST = Integer.MIN_VALUE;
    static final int MOST = Integer.MAX_VALUE;

    interface Call {
        long answer();
    }

    private final String name;
    private String promise = "";
    private int wrong = 0;

    Checks(String name) {
        this.name = name;
    }

    void promise(String told) {
        promise = told;
    }

    /** Ends the test, with exit code 1 if an answer was not the one that is due. */
    void end() {
        System.out.println(name + ": " + (wrong == 0 ? "all answers are as due" : wrong + " answers are not as due"));
        if (wrong != 0) {
            System.exit(1);
        }
    }

    /**
     * Runs each test of a class by itself: the methods whose names begin with "promise" and its number. What one of
     * them finds is told under its name, and one that throws does not keep the others from running.
     */
    void runEach(Class<?> tests) {
        Method[] methods = tests.getDeclaredMethods();
        Arrays.sort(methods, Comparator.comparing(Method::getName));
        for (Method method : methods) {
            if (method.getName().startsWith("promise")) {
                promise(method.getName().substring("promise".length()));
                run(method);
            }
        }
    }

    private void run(Method test) {
        try {
            test.invoke(null);
        } catch (InvocationTargetException e) {
            same("the test", "no exception", "threw " + e.getCause());
        } catch (IllegalAccessException e) {
            same("the test", "a method that can be called", e.getMessage());
        }
    }

    void due(String call, long want, long got) {
        same(call, want, got);
    }

    void same(String call, Object want, Object got) {
        if (!Objects.equals(want, got)) {
            wrong++;
            System.out.println(name + ", promise " + promise + ": " + call + " answered\n" + got + "\ndue is\n" + want);
        }
    }

    /** The call throws just this, and changes nothing. */
    void dueThrow(CorridorPlan plan, String call, Class<?> want, Call made) {
        long before = plan.digest();
        Class<?> got = null;
        try {
            made.answer();
        } catch (RuntimeException e) {
            got = e.getClass();
        }
        same(call + " throws", want, got);
        due(call + " throws and changes nothing: digest()", before, plan.digest());
    }

    /** The call throws just this, and leaves all six states that are saved as they were. */
    void dueSavedStatesStay(CorridorPlan plan, String call, Class<?> want, Call made) {
        for (int far = 3; far <= 8; far++) {
            plan.set(far);
        }
        dueThrow(plan, call, want, made);
        for (int left = 5; left >= 0; left--) {
            due("undo() behind " + call, left, plan.undo());
        }
        dueThrow(plan, "undo() behind all behind " + call, ILLEGAL_STATE, plan::undo);
        due("set(9), what was in the oldest state behind " + call, 2, plan.set(9));
    }

    void duePicture(CorridorPlan plan, String when, String... upperRows) {
        same("the plan " + when, rows(upperRows), picture(plan));
    }

    /** count(0) to count(7). */
    void dueCounts(CorridorPlan plan, String when, int... want) {
        int[] got = new int[8];
        for (int what = 0; what < got.length; what++) {
            got[what] = plan.count(what);
        }
        same("count(0) to count(7) " + when, Arrays.toString(want), Arrays.toString(got));
    }

    /** way(one, other, 0) to way(one, other, 4). */
    void dueWay(CorridorPlan plan, int one, int other, int... want) {
        int[] got = new int[5];
        for (int what = 0; what < got.length; what++) {
            got[what] = plan.way(one, other, what);
        }
        same("way(" + one + ", " + other + ", 0) to (4)", Arrays.toString(want), Arrays.toString(got));
    }

    static String picture(CorridorPlan plan) {
        StringBuilder picture = new StringBuilder();
        for (int y = 0; y < 12; y++) {
            for (int x = 0; x < 16; x++) {
                int what = plan.square(x, y, 0);
                picture.append(what == -2 ? '#' : what == -1 ? '.' : (char) ('A' + what));
            }
            picture.append('\n');
        }
        return picture.toString();
    }

    /** The upper rows of a picture; all below them, and to the right of them, is rock. */
    static String rows(String... upper) {
        StringBuilder picture = new StringBuilder();
        for (int y = 0; y < 12; y++) {
            String row = y < upper.length ? upper[y] : "";
            picture.append(row).append("#".repeat(16 - row.length())).append('\n');
        }
        return picture.toString();
    }

    /** A plan by the upper rows of its picture, which may end where only rock follows; the setting 0 is as at first. */
    static CorridorPlan plan(String... upperRows) {
        CorridorPlan plan = new CorridorPlan();
        for (char letter = 'A'; letter <= 'F'; letter++) {
            addChamber(plan, letter, upperRows);
        }
        for (int y = 0; y < upperRows.length; y++) {
            for (int x = 0; x < upperRows[y].length(); x++) {
                if (upperRows[y].charAt(x) == '.') {
                    plan.dig(x, y);
                }
            }
        }
        return plan;
    }

    private static void addChamber(CorridorPlan plan, char letter, String... upperRows) {
        for (int y = 0; y < upperRows.length; y++) {
            int x = upperRows[y].indexOf(letter);
            if (x >= 0) {
                int rows = 1;
                while (y + rows < upperRows.length && upperRows[y + rows].indexOf(letter) == x) {
                    rows++;
                }
                plan.room(x, y, upperRows[y].lastIndexOf(letter) - x + 1, rows);
                return;
            }
        }
    }

    /** Digs squares, or fills them, by their numbers. */
    static void digAll(CorridorPlan plan, int... squares) {
        for (int square : squares) {
            plan.dig(square % 16, square / 16);
        }
    }

    static void type(CorridorPlan plan, String text) {
        for (char code : text.toCharArray()) {
            plan.append(code);
        }
    }

    /** A, B and C on the rows 1 and 2, four squares between each two. */
    static CorridorPlan threeInARow() {
        CorridorPlan plan = new CorridorPlan();
        plan.room(0, 1, 2, 2);
        plan.room(6, 1, 2, 2);
        plan.room(12, 1, 2, 2);
        return plan;
    }

    /** A in the corner, with B at its own corner, so that a cart finds no place at A. */
    static CorridorPlan noWayForCarts() {
        CorridorPlan plan = new CorridorPlan();
        plan.room(0, 0, 2, 2);
        plan.room(2, 2, 1, 1);
        plan.walk(0, 1, 3);
        return plan;
    }

    /** Two ways of seven places from A to B, on both sides of C: which one comes first depends on the former. */
    static CorridorPlan twoSides() {
        CorridorPlan plan = new CorridorPlan();
        plan.room(4, 1, 2, 2);
        plan.room(5, 9, 3, 1);
        plan.room(5, 7, 1, 1);
        return plan;
    }

    /** A cart's least way from A to B comes twice over one square of rock. */
    static CorridorPlan windingForCarts() {
        CorridorPlan plan = new CorridorPlan();
        plan.room(5, 0, 3, 1);
        plan.room(1, 4, 2, 4);
        plan.room(3, 2, 1, 1);
        plan.room(9, 8, 1, 1);
        plan.room(11, 1, 1, 4);
        plan.room(5, 4, 3, 2);
        plan.walk(0, 1, 3);
        return plan;
    }

    /** A and B at the left, and between them an open way that goes to and fro over the whole plan. */
    static CorridorPlan toAndFro() {
        String open = "................";
        String atLeft = ".";
        String atRight = "###############.";
        return plan("A...............", atRight, open, atLeft, open, atRight, open, atLeft, open, atRight,
                "B...............");
    }

    /**
     * A at the left and B at the right, on the rows 5 and 6, with a ring of some width dug along the sides of the
     * plan, from row 0 to 5 or from row 6 to 11; who walks there is as broad as the ring.
     */
    static CorridorPlan ring(int width, int firstRow) {
        CorridorPlan plan = new CorridorPlan();
        plan.room(width, 5, 1, 2);
        plan.room(15 - width, 5, 1, 2);
        plan.walk(0, 1, width);
        for (int y = firstRow; y < firstRow + 6; y++) {
            for (int x = 0; x < 16; x++) {
                boolean atSide = x < width || x >= 16 - width;
                boolean atEnd = firstRow == 0 ? y < width : y >= 12 - width;
                if (atSide || atEnd) {
                    plan.dig(x, y);
                }
            }
        }
        return plan;
    }
}
