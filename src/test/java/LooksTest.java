import java.util.Arrays;

/** Promises 15 to 18: square, chamber, way, count. */
public final class LooksTest {
    private static final Checks CHECKS = new Checks("LooksTest");

    public static void main(String[] arguments) {
        square();
        chamber();
        chamberFacing();
        chamberFacingFar();
        chamberAtTheEdges();
        chamberWalkers();
        way();
        wayByPlaces();
        wayBroad();
        wayOverDugSquares();
        wayAtTheEdges();
        wayRefused();
        count();
        CHECKS.end();
    }

    private static void square() {
        CHECKS.promise("15, square");
        CorridorPlan plan = new CorridorPlan();
        plan.room(4, 4, 1, 1);
        plan.room(6, 4, 1, 1);
        plan.room(5, 3, 1, 1);
        plan.room(5, 5, 1, 1);
        CHECKS.due("square(5, 4, 0), rock", -2, plan.square(5, 4, 0));
        CHECKS.due("square(5, 4, 1), rock is no door", 0, plan.square(5, 4, 1));
        Checks.digAll(plan, 4 * 16 + 5, 3 * 16 + 4, 4 * 16 + 3, 3 * 16 + 3, 0, 191);
        CHECKS.due("square(5, 4, 0), dug", -1, plan.square(5, 4, 0));
        CHECKS.due("square(5, 4, 1), four chambers", 4, plan.square(5, 4, 1));
        CHECKS.due("square(4, 3, 1), two chambers", 2, plan.square(4, 3, 1));
        CHECKS.due("square(3, 4, 1), one chamber", 1, plan.square(3, 4, 1));
        CHECKS.due("square(3, 3, 1), at a corner only", 0, plan.square(3, 3, 1));
        CHECKS.due("square(4, 4, 0), of A", 0, plan.square(4, 4, 0));
        CHECKS.due("square(5, 5, 0), of D", 3, plan.square(5, 5, 0));
        CHECKS.due("square(4, 4, 1), a chamber is no door", 0, plan.square(4, 4, 1));
        CHECKS.due("square(0, 0, 0)", -1, plan.square(0, 0, 0));
        CHECKS.due("square(15, 11, 0)", -1, plan.square(15, 11, 0));
        CHECKS.due("square(15, 11, 1)", 0, plan.square(15, 11, 1));
        CHECKS.due("square(0, 1, 0)", -2, plan.square(0, 1, 0));
        int[][] wrong = {{-1, 0, 0}, {16, 0, 0}, {0, -1, 1}, {0, 12, 1}, {0, 0, -1}, {0, 0, 2}, {Checks.MOST, 0, 0},
            {0, Checks.LEAST, 0}, {4, 4, Checks.MOST}};
        for (int[] call : wrong) {
            CHECKS.dueThrow(plan, "square" + Arrays.toString(call), Checks.ILLEGAL_ARGUMENT,
                    () -> plan.square(call[0], call[1], call[2]));
        }
    }

    private static void dueChamber(CorridorPlan plan, int room, int... want) {
        int[] got = new int[8];
        for (int what = 0; what < got.length; what++) {
            got[what] = plan.chamber(room, what);
        }
        CHECKS.same("chamber(" + room + ", 0) to (7)", Arrays.toString(want), Arrays.toString(got));
    }

    private static void chamber() {
        CHECKS.promise("16, chamber");
        CorridorPlan plan = new CorridorPlan();
        plan.room(3, 2, 4, 2);
        plan.room(14, 9, 2, 3);
        dueChamber(plan, 0, 3, 2, 4, 2, 0, 0, 0, 0);
        dueChamber(plan, 1, 14, 9, 2, 3, 0, 0, 0, 0);
        for (int x = 2; x <= 7; x++) {
            for (int y = 1; y <= 4; y++) {
                if (x == 2 || x == 7 || y == 1 || y == 4) {
                    plan.dig(x, y);
                }
            }
        }
        Checks.digAll(plan, 8 * 16 + 14, 11 * 16 + 13);
        dueChamber(plan, 0, 3, 2, 4, 2, 12, 0, 0, 0);
        dueChamber(plan, 1, 14, 9, 2, 3, 2, 0, 0, 0);
        for (int number : new int[] {-1, 2, 6, Checks.MOST, Checks.LEAST}) {
            CHECKS.dueThrow(plan, "chamber(" + number + ", 0)", Checks.OUT_OF_BOUNDS, () -> plan.chamber(number, 0));
            CHECKS.dueThrow(plan, "chamber(" + number + ", 8)", Checks.OUT_OF_BOUNDS, () -> plan.chamber(number, 8));
        }
        for (int what : new int[] {-1, 8, Checks.MOST, Checks.LEAST}) {
            CHECKS.dueThrow(plan, "chamber(1, " + what + ")", Checks.ILLEGAL_ARGUMENT, () -> plan.chamber(1, what));
        }
    }

    private static void dueFacing(CorridorPlan plan, String when, int pairs, int... ofChambers) {
        CHECKS.due("count(6) " + when, pairs, plan.count(6));
        for (int room = 0; room < ofChambers.length; room++) {
            CHECKS.due("chamber(" + room + ", 5) " + when, ofChambers[room], plan.chamber(room, 5));
        }
    }

    /** A with B two squares to the right of it and C three squares below it. */
    private static void chamberFacing() {
        CorridorPlan plan = new CorridorPlan();
        plan.room(2, 2, 2, 2);
        plan.room(6, 2, 2, 2);
        plan.room(2, 7, 2, 2);
        Checks.digAll(plan, 2 * 16 + 4, 3 * 16 + 5);
        dueFacing(plan, "with rock ahead of each door", 0, 0, 0, 0);
        plan.dig(5, 2);
        dueFacing(plan, "with one row dug", 1, 1, 1, 0);
        plan.dig(4, 3);
        dueFacing(plan, "with two rows dug", 2, 2, 2, 0);
        Checks.digAll(plan, 4 * 16 + 2, 6 * 16 + 2);
        dueFacing(plan, "with rock between the doors", 2, 2, 2, 0);
        plan.dig(2, 5);
        dueFacing(plan, "with a column dug, two squares farther", 3, 3, 2, 1);
        CHECKS.due("chamber(0, 4)", 3, plan.chamber(0, 4));
        CHECKS.due("chamber(1, 4)", 2, plan.chamber(1, 4));
        CHECKS.due("chamber(2, 4)", 1, plan.chamber(2, 4));
        plan.set(1);
        dueFacing(plan, "with setting 1", 2, 2, 2, 0);
        plan.set(0);
        dueFacing(plan, "with setting 0", 0, 0, 0, 0);
        plan.room(4, 4, 1, 1);
        plan.set(1);
        dueFacing(plan, "with D below a door of A, that is a door of D too", 2, 2, 2, 0, 0);
        CHECKS.due("chamber(3, 4)", 1, plan.chamber(3, 4));
        plan.give(1);
        dueFacing(plan, "with B given up", 0, 0);
    }

    private static void chamberFacingFar() {
        CorridorPlan plan = new CorridorPlan();
        plan.room(0, 0, 1, 1);
        plan.room(2, 0, 1, 1);
        plan.dig(1, 0);
        plan.set(0);
        dueFacing(plan, "on the same square, with setting 0", 1, 1, 1);
        CHECKS.due("count(5), the square is a door of both", 2, plan.count(5));
        plan.room(13, 0, 1, 1);
        for (int x = 3; x <= 12; x++) {
            plan.dig(x, 0);
        }
        plan.set(8);
        dueFacing(plan, "ten squares between, with setting 8", 1, 1, 1, 0);
        plan.set(9);
        dueFacing(plan, "ten squares between, with setting 9", 2, 1, 2, 1);
        plan.dig(7, 0);
        dueFacing(plan, "a square of rock between", 1, 1, 1, 0);
        CorridorPlan wide = new CorridorPlan();
        wide.room(1, 5, 1, 1);
        wide.room(13, 5, 1, 1);
        for (int x = 2; x <= 12; x++) {
            wide.dig(x, 5);
        }
        wide.dig(0, 5);
        wide.dig(14, 5);
        wide.set(9);
        dueFacing(wide, "eleven squares between", 0, 0, 0);
    }

    /** Doors on the outermost squares, that face one another along the sides of the plan. */
    private static void chamberAtTheEdges() {
        CorridorPlan plan = new CorridorPlan();
        plan.room(1, 0, 1, 1);
        plan.room(3, 0, 1, 1);
        plan.room(0, 2, 1, 1);
        plan.room(0, 4, 1, 1);
        plan.room(15, 10, 1, 1);
        plan.room(13, 11, 1, 1);
        Checks.digAll(plan, 0, 16, 2, 3 * 16, 9 * 16 + 15, 11 * 16 + 15, 11 * 16 + 14, 11 * 16 + 12);
        dueFacing(plan, "at the edges", 2, 1, 1, 1, 1, 0, 0);
        int[] doors = {2, 1, 2, 1, 2, 2};
        for (int room = 0; room < doors.length; room++) {
            CHECKS.due("chamber(" + room + ", 4), at the edges", doors[room], plan.chamber(room, 4));
        }
        CHECKS.due("count(5), at the edges", 10, plan.count(5));
    }

    private static void chamberWalkers() {
        CorridorPlan plan = Checks.threeInARow();
        plan.room(14, 3, 1, 1);
        plan.walk(0, 1, 1);
        plan.walk(2, 0, 2);
        plan.walk(2, 3, 3);
        plan.walk(1, 3, 1);
        plan.walk(1, 3, 0);
        plan.carve(0, 1);
        dueWalkers(plan, 0, 2, 1);
        dueWalkers(plan, 1, 1, 0);
        dueWalkers(plan, 2, 2, 2);
        dueWalkers(plan, 3, 1, 1);
        dueWalkers(Checks.noWayForCarts(), 0, 1, 1);
        dueWalkers(Checks.noWayForCarts(), 1, 1, 1);
    }

    private static void dueWalkers(CorridorPlan plan, int room, int walkers, int closed) {
        CHECKS.due("chamber(" + room + ", 6)", walkers, plan.chamber(room, 6));
        CHECKS.due("chamber(" + room + ", 7)", closed, plan.chamber(room, 7));
    }

    private static void way() {
        CHECKS.promise("17, way");
        CorridorPlan plan = Checks.threeInARow();
        CHECKS.dueWay(plan, 0, 1, 4, 4, 18, 21, 0);
        CHECKS.dueWay(plan, 1, 0, 4, 4, 21, 18, 0);
        CHECKS.dueWay(plan, 0, 2, 12, 12, 1, 12, 0);
        CHECKS.dueWay(plan, 2, 0, 12, 12, 12, 1, 0);
        plan.walk(1, 0, 1);
        CHECKS.dueWay(plan, 0, 1, 4, 4, 18, 21, 1);
        plan.carve(0, 1);
        CHECKS.dueWay(plan, 0, 1, 0, 4, 18, 21, 1);
        CorridorPlan sides = Checks.twoSides();
        CHECKS.dueWay(sides, 0, 1, 7, 7, 2 * 16 + 6, 8 * 16 + 6, 0);
        CHECKS.dueWay(sides, 1, 0, 7, 7, 8 * 16 + 5, 3 * 16 + 4, 0);
        CorridorPlan corner = Checks.noWayForCarts();
        CHECKS.dueWay(corner, 0, 1, -1, -1, -1, -1, 3);
        CHECKS.dueWay(corner, 1, 0, -1, -1, -1, -1, 3);
        corner.walk(0, 1, 1);
        CHECKS.dueWay(corner, 0, 1, 1, 1, 18, 18, 1);
        corner.walk(0, 1, 0);
        CHECKS.dueWay(corner, 1, 0, 1, 1, 18, 18, 0);
    }

    /** The least cost first, then the fewest places. */
    private static void wayByPlaces() {
        CorridorPlan plan = Checks.threeInARow();
        Checks.digAll(plan, 34, 50, 51, 52, 53, 37);
        CHECKS.dueWay(plan, 0, 1, 0, 6, 34, 37, 0);
        plan.dig(3, 3);
        CHECKS.dueWay(plan, 0, 1, 1, 6, 34, 37, 0);
        plan.dig(4, 3);
        CHECKS.dueWay(plan, 0, 1, 2, 4, 34, 37, 0);
    }

    private static void wayBroad() {
        CorridorPlan plan = Checks.threeInARow();
        plan.walk(0, 1, 2);
        CHECKS.dueWay(plan, 0, 1, 8, 3, 2, 4, 2);
        CHECKS.dueWay(plan, 1, 0, 8, 3, 4, 2, 2);
        plan.walk(0, 1, 3);
        CHECKS.dueWay(plan, 0, 1, 12, 2, 2, 3, 3);
        CHECKS.dueWay(Checks.windingForCarts(), 0, 1, 69, 21, 8, 7 * 16 + 3, 3);
        CorridorPlan edge = new CorridorPlan();
        edge.room(0, 9, 1, 1);
        edge.room(5, 11, 1, 1);
        edge.walk(0, 1, 2);
        CHECKS.dueWay(edge, 0, 1, 10, 4, 9 * 16 + 1, 9 * 16 + 4, 2);
        edge.walk(0, 1, 3);
        CHECKS.dueWay(edge, 0, 1, 12, 2, 9 * 16 + 1, 9 * 16 + 2, 3);
    }

    /** Broad walkers down and up, and to both sides, over squares of which some are dug. */
    private static void wayOverDugSquares() {
        CorridorPlan plan = new CorridorPlan();
        plan.room(2, 0, 2, 1);
        plan.room(2, 7, 2, 1);
        Checks.digAll(plan, 3 * 16 + 2, 3 * 16 + 3);
        plan.walk(0, 1, 2);
        CHECKS.dueWay(plan, 0, 1, 10, 5, 1 * 16 + 2, 5 * 16 + 2, 2);
        CHECKS.dueWay(plan, 1, 0, 10, 5, 5 * 16 + 2, 1 * 16 + 2, 2);
        plan.walk(0, 1, 3);
        CHECKS.dueWay(plan, 0, 1, 16, 4, 1 * 16 + 1, 4 * 16 + 1, 3);
        CHECKS.dueWay(plan, 1, 0, 16, 4, 4 * 16 + 1, 1 * 16 + 1, 3);
        CorridorPlan aside = new CorridorPlan();
        aside.room(0, 2, 1, 2);
        aside.room(7, 2, 1, 2);
        Checks.digAll(aside, 2 * 16 + 3, 3 * 16 + 3);
        aside.walk(0, 1, 2);
        CHECKS.dueWay(aside, 0, 1, 10, 5, 2 * 16 + 1, 2 * 16 + 5, 2);
        CHECKS.dueWay(aside, 1, 0, 10, 5, 2 * 16 + 5, 2 * 16 + 1, 2);
        aside.walk(0, 1, 3);
        CHECKS.dueWay(aside, 0, 1, 16, 4, 1 * 16 + 1, 1 * 16 + 4, 3);
        CHECKS.dueWay(aside, 1, 0, 16, 4, 1 * 16 + 4, 1 * 16 + 1, 3);
    }

    /** Open ways along all sides of the plan, over all its corners: for one, and for a cart. */
    private static void wayAtTheEdges() {
        CHECKS.dueWay(Checks.ring(1, 0), 0, 1, 0, 26, 5 * 16, 5 * 16 + 15, 1);
        CHECKS.dueWay(Checks.ring(1, 0), 1, 0, 0, 26, 5 * 16 + 15, 5 * 16, 1);
        CHECKS.dueWay(Checks.ring(1, 6), 0, 1, 0, 26, 6 * 16, 6 * 16 + 15, 1);
        CHECKS.dueWay(Checks.ring(1, 6), 1, 0, 0, 26, 6 * 16 + 15, 6 * 16, 1);
        CHECKS.dueWay(Checks.ring(3, 0), 0, 1, 0, 20, 3 * 16, 3 * 16 + 13, 3);
        CHECKS.dueWay(Checks.ring(3, 0), 1, 0, 0, 20, 3 * 16 + 13, 3 * 16, 3);
        CHECKS.dueWay(Checks.ring(3, 6), 0, 1, 0, 20, 6 * 16, 6 * 16 + 13, 3);
        CHECKS.dueWay(Checks.ring(3, 6), 1, 0, 0, 20, 6 * 16 + 13, 6 * 16, 3);
        CorridorPlan below = new CorridorPlan();
        below.room(2, 11, 1, 1);
        below.room(8, 11, 1, 1);
        below.walk(0, 1, 2);
        CHECKS.dueWay(below, 0, 1, 10, 4, 10 * 16 + 3, 10 * 16 + 6, 2);
        CorridorPlan nearBelow = new CorridorPlan();
        nearBelow.room(2, 11, 1, 1);
        nearBelow.room(5, 11, 1, 1);
        nearBelow.walk(0, 1, 2);
        CHECKS.dueWay(nearBelow, 0, 1, 4, 1, 10 * 16 + 3, 10 * 16 + 3, 2);
        CorridorPlan right = new CorridorPlan();
        right.room(15, 2, 1, 1);
        right.room(15, 8, 1, 1);
        right.walk(0, 1, 3);
        CHECKS.dueWay(right, 0, 1, 15, 3, 3 * 16 + 13, 5 * 16 + 13, 3);
    }

    private static void wayRefused() {
        CorridorPlan plan = Checks.threeInARow();
        int[][] noChamber = {{0, 3, 0}, {3, 0, 0}, {-1, 0, 0}, {0, 6, 4}, {3, 3, 0}, {5, 1, 9}, {Checks.MOST, 0, 0},
            {0, Checks.LEAST, 0}};
        for (int[] call : noChamber) {
            CHECKS.dueThrow(plan, "way" + Arrays.toString(call), Checks.OUT_OF_BOUNDS,
                    () -> plan.way(call[0], call[1], call[2]));
        }
        int[][] wrongArgument = {{1, 1, 0}, {1, 1, 4}, {0, 1, -1}, {0, 1, 5}, {0, 2, Checks.MOST},
            {0, 2, Checks.LEAST}};
        for (int[] call : wrongArgument) {
            CHECKS.dueThrow(plan, "way" + Arrays.toString(call), Checks.ILLEGAL_ARGUMENT,
                    () -> plan.way(call[0], call[1], call[2]));
        }
    }

    private static void count() {
        CHECKS.promise("18, count");
        CorridorPlan plan = Checks.threeInARow();
        CHECKS.dueCounts(plan, "without walkers", 3, 0, 180, 0, 0, 0, 0, 0);
        CHECKS.due("count(8)", 3, plan.count(8));
        plan.walk(0, 1, 1);
        plan.walk(1, 2, 2);
        plan.walk(2, 0, 1);
        CHECKS.dueCounts(plan, "with walkers", 3, 0, 180, 3, 3, 0, 0, 24);
        plan.carve(0, 1);
        CHECKS.dueCounts(plan, "with A and B open", 3, 4, 176, 3, 2, 2, 0, 16);
        plan.set(3);
        CHECKS.dueCounts(plan, "with setting 3", 3, 4, 176, 3, 2, 2, 1, 16);
        CHECKS.due("count(8)", 6, plan.count(8));
        CHECKS.dueCounts(Checks.noWayForCarts(), "without a way", 2, 0, 187, 1, 1, 0, 0, 0);
        for (int what : new int[] {-1, 9, Checks.MOST, Checks.LEAST}) {
            CHECKS.dueThrow(plan, "count(" + what + ")", Checks.ILLEGAL_ARGUMENT, () -> plan.count(what));
        }
    }
}
