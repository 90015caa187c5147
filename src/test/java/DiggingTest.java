import java.util.Arrays;

/** Promises 5 to 9: dig, carve, carveAll, fillUp, set. */
public final class DiggingTest {
    private static final Checks CHECKS = new Checks("DiggingTest");
    private static final String ROCK = "################";

    public static void main(String[] arguments) {
        dig();
        carve();
        carveByFormer();
        carveBroad();
        carveRefused();
        carveAll();
        carveAllWithEqualCosts();
        carveAllWithoutWork();
        fillUp();
        fillUpByFormer();
        fillUpBroad();
        fillUpAtTheEdges();
        set();
        CHECKS.end();
    }

    private static void dig() {
        CHECKS.promise("5, dig");
        CorridorPlan plan = Checks.threeInARow();
        CHECKS.due("dig(2, 1)", 1, plan.dig(2, 1));
        CHECKS.due("dig(0, 0)", 1, plan.dig(0, 0));
        CHECKS.due("dig(15, 0)", 1, plan.dig(15, 0));
        CHECKS.due("dig(2, 1), filled again", 0, plan.dig(2, 1));
        CHECKS.duePicture(plan, "with two squares", ".##############.", "AA####BB####CC##", "AA####BB####CC##");
        CHECKS.due("dig(0, 0), filled again", 0, plan.dig(0, 0));
        CHECKS.due("square(0, 0, 0), filled", -2, plan.square(0, 0, 0));
        CHECKS.due("square(15, 0, 0), still dug", -1, plan.square(15, 0, 0));
        CHECKS.due("undo()", 5, plan.undo());
        CHECKS.duePicture(plan, "behind undo", ".##############.", "AA####BB####CC##", "AA####BB####CC##");
        CHECKS.due("dig(15, 11)", 1, plan.dig(15, 11));
        CHECKS.due("square(15, 11, 0)", -1, plan.square(15, 11, 0));
        int[][] outside = {{-1, 0}, {16, 0}, {0, -1}, {0, 12}, {16, 12}, {Checks.MOST, 0}, {0, Checks.LEAST}};
        for (int[] square : outside) {
            CHECKS.dueThrow(plan, "dig" + Arrays.toString(square), Checks.ILLEGAL_ARGUMENT,
                    () -> plan.dig(square[0], square[1]));
        }
        CHECKS.dueThrow(plan, "dig(0, 1), of A", Checks.ILLEGAL_STATE, () -> plan.dig(0, 1));
        CHECKS.dueThrow(plan, "dig(13, 2), of C", Checks.ILLEGAL_STATE, () -> plan.dig(13, 2));
    }

    private static void carve() {
        CHECKS.promise("6, carve");
        CorridorPlan plan = Checks.threeInARow();
        plan.dig(3, 2);
        CHECKS.due("carve(0, 1), a square is dug already", 3, plan.carve(0, 1));
        CHECKS.duePicture(plan, "behind carve(0, 1)", ROCK, "AA####BB####CC##", "AA....BB####CC##");
        CHECKS.due("carve(1, 0), open already", 0, plan.carve(1, 0));
        CHECKS.due("count(8), that is saved too", 6, plan.count(8));
        CHECKS.due("undo()", 5, plan.undo());
        CHECKS.due("undo()", 4, plan.undo());
        CHECKS.duePicture(plan, "behind undo", ROCK, "AA####BB####CC##", "AA#.##BB####CC##");
        CorridorPlan round = Checks.threeInARow();
        CHECKS.due("carve(0, 2), round B", 12, round.carve(0, 2));
        CHECKS.duePicture(round, "behind carve(0, 2)", "#............###", "AA####BB####CC##", "AA####BB####CC##");
        CorridorPlan corner = new CorridorPlan();
        corner.room(0, 0, 2, 2);
        corner.room(2, 2, 1, 1);
        CHECKS.due("carve(1, 0), one place alone", 1, corner.carve(1, 0));
        CHECKS.duePicture(corner, "behind carve(1, 0)", "AA##############", "AA.#############", "##B#############");
    }

    private static void carveByFormer() {
        CorridorPlan plan = Checks.twoSides();
        CHECKS.due("carve(0, 1)", 7, plan.carve(0, 1));
        CHECKS.duePicture(plan, "behind carve(0, 1)", ROCK, "####AA##########", "####AA.#########", "######.#########",
                "######.#########", "######.#########", "######.#########", "#####C.#########", "######.#########",
                "#####BBB########");
        plan.undo();
        CHECKS.due("carve(1, 0)", 7, plan.carve(1, 0));
        CHECKS.duePicture(plan, "behind carve(1, 0)", ROCK, "####AA##########", "####AA##########", "####.###########",
                "####.###########", "####.###########", "####.###########", "####.C##########", "####..##########",
                "#####BBB########");
    }

    private static void carveBroad() {
        CorridorPlan plan = Checks.threeInARow();
        plan.walk(0, 1, 2);
        plan.walk(1, 2, 3);
        CHECKS.due("carve(0, 1), for a pair", 8, plan.carve(0, 1));
        CHECKS.due("carve(1, 2), for a cart", 12, plan.carve(1, 2));
        CHECKS.duePicture(plan, "for a pair and a cart", "##....##....####", "AA....BB....CC##", "AA####BB....CC##");
        CorridorPlan winding = Checks.windingForCarts();
        CHECKS.due("way(0, 1, 0), a square is told twice", 69, winding.way(0, 1, 0));
        CHECKS.due("carve(0, 1), a square is told once", 68, winding.carve(0, 1));
        CHECKS.due("count(1)", 68, winding.count(1));
    }

    private static void carveRefused() {
        CorridorPlan plan = Checks.noWayForCarts();
        CHECKS.dueThrow(plan, "carve(0, 1), no way", Checks.ILLEGAL_STATE, () -> plan.carve(0, 1));
        CHECKS.dueThrow(plan, "carve(1, 0), no way", Checks.ILLEGAL_STATE, () -> plan.carve(1, 0));
        int[][] noChamber = {{0, 2}, {2, 0}, {-1, 0}, {0, 6}, {2, 2}, {Checks.MOST, 0}, {0, Checks.LEAST}};
        for (int[] pair : noChamber) {
            CHECKS.dueThrow(plan, "carve" + Arrays.toString(pair), Checks.OUT_OF_BOUNDS,
                    () -> plan.carve(pair[0], pair[1]));
        }
        CHECKS.dueThrow(plan, "carve(1, 1)", Checks.ILLEGAL_ARGUMENT, () -> plan.carve(1, 1));
    }

    /** A and B first, for 4; then A and C for 8 over what is dug, before B and C, that cost as much and then less. */
    private static void carveAll() {
        CHECKS.promise("7, carveAll");
        CorridorPlan plan = Checks.threeInARow();
        plan.walk(1, 2, 2);
        plan.walk(0, 2, 1);
        plan.walk(1, 0, 1);
        CHECKS.due("count(7)", 24, plan.count(7));
        CHECKS.due("count(8)", 6, plan.count(8));
        CHECKS.due("carveAll()", 3, plan.carveAll());
        CHECKS.due("count(1)", 16, plan.count(1));
        CHECKS.duePicture(plan, "behind carveAll()", "#####........###", "AA....BB....CC##", "AA####BB####CC##");
        CHECKS.due("undo(), of all at once", 5, plan.undo());
        CHECKS.duePicture(plan, "behind undo", ROCK, "AA####BB####CC##", "AA####BB####CC##");
    }

    /** Both ways from A cost 8: the one to B first leaves 3 for the one to C, the other order would leave 5. */
    private static void carveAllWithEqualCosts() {
        CorridorPlan plan = new CorridorPlan();
        plan.room(0, 1, 2, 2);
        plan.room(8, 4, 1, 1);
        plan.room(6, 1, 2, 2);
        plan.walk(0, 2, 2);
        plan.walk(0, 1, 1);
        CHECKS.due("way(0, 1, 0)", 8, plan.way(0, 1, 0));
        CHECKS.due("way(0, 2, 0)", 8, plan.way(0, 2, 0));
        CHECKS.due("carveAll()", 2, plan.carveAll());
        CHECKS.duePicture(plan, "behind carveAll()", ROCK, "AA####CC########", "AA....CC########", "##.......#######",
                "########B#######");
    }

    private static void carveAllWithoutWork() {
        CorridorPlan plan = Checks.noWayForCarts();
        int saved = plan.count(8);
        CHECKS.due("carveAll(), no way", 0, plan.carveAll());
        CHECKS.due("count(8), that is saved too", saved + 1, plan.count(8));
        plan.room(6, 0, 1, 1);
        plan.walk(0, 2, 1);
        CHECKS.due("carveAll(), one has a way", 1, plan.carveAll());
        CHECKS.due("carveAll(), that one is open", 0, plan.carveAll());
        plan.walk(0, 1, 1);
        CHECKS.due("carveAll(), one square is missing", 1, plan.carveAll());
        CHECKS.due("square(2, 1, 0)", -1, plan.square(2, 1, 0));
        CorridorPlan nobody = Checks.threeInARow();
        CHECKS.due("carveAll(), nobody walks", 0, nobody.carveAll());
        CHECKS.duePicture(nobody, "where nobody walks", ROCK, "AA####BB####CC##", "AA####BB####CC##");
    }

    private static void fillUp() {
        CHECKS.promise("8, fillUp");
        CorridorPlan plan = Checks.threeInARow();
        Checks.digAll(plan, 18, 19, 20, 21, 34, 35, 36, 24, 25, 26, 191, 0);
        plan.walk(0, 1, 1);
        plan.walk(1, 2, 1);
        CHECKS.due("fillUp(), B and C have no open way", 8, plan.fillUp());
        CHECKS.duePicture(plan, "behind fillUp()", ROCK, "AA....BB####CC##", "AA####BB####CC##");
        CHECKS.due("fillUp(), nothing is left to fill", 0, plan.fillUp());
        CHECKS.due("count(8), that is saved too", 6, plan.count(8));
        plan.undo();
        CHECKS.due("undo()", 4, plan.undo());
        CHECKS.due("count(1) behind undo", 12, plan.count(1));
        plan.walk(0, 1, 0);
        CHECKS.due("fillUp(), nobody walks on what is open", 12, plan.fillUp());
        CHECKS.due("count(1)", 0, plan.count(1));
    }

    private static void fillUpByFormer() {
        CorridorPlan plan = Checks.twoSides();
        plan.walk(1, 0, 1);
        plan.carve(1, 0);
        Checks.digAll(plan, 38, 54, 70, 86, 102, 118, 134);
        CHECKS.due("fillUp(), the lower one is the former", 7, plan.fillUp());
        CHECKS.duePicture(plan, "behind fillUp()", ROCK, "####AA##########", "####AA.#########", "######.#########",
                "######.#########", "######.#########", "######.#########", "#####C.#########", "######.#########",
                "#####BBB########");
    }

    private static void fillUpBroad() {
        CorridorPlan plan = Checks.threeInARow();
        plan.walk(0, 1, 2);
        plan.walk(0, 2, 1);
        plan.carveAll();
        Checks.digAll(plan, 34, 35, 36, 37);
        CHECKS.due("fillUp(), a pair and one", 4, plan.fillUp());
        CHECKS.duePicture(plan, "behind fillUp()", "##...........###", "AA....BB####CC##", "AA####BB####CC##");
    }

    private static void fillUpAtTheEdges() {
        for (int width = 1; width <= 3; width += 2) {
            for (int firstRow = 0; firstRow <= 6; firstRow += 6) {
                CorridorPlan plan = Checks.ring(width, firstRow);
                CHECKS.due("fillUp(), all is needed", 0, plan.fillUp());
                plan.dig(8, 6);
                CHECKS.due("fillUp(), all but one is needed", 1, plan.fillUp());
                plan.dig(0, firstRow == 0 ? 0 : 11);
                CHECKS.due("carve(0, 1), the corner was filled", 1, plan.carve(0, 1));
                plan.walk(0, 1, 0);
                int dug = plan.count(1);
                CHECKS.due("fillUp(), nothing is needed", dug, plan.fillUp());
            }
        }
    }

    private static void set() {
        CHECKS.promise("9, set");
        CorridorPlan plan = new CorridorPlan();
        CHECKS.due("set(0)", 2, plan.set(0));
        CHECKS.due("set(9)", 0, plan.set(9));
        CHECKS.due("set(9), nothing changes", 9, plan.set(9));
        CHECKS.due("count(8), that is saved too", 3, plan.count(8));
        CHECKS.due("set(4)", 9, plan.set(4));
        CHECKS.due("undo()", 3, plan.undo());
        CHECKS.due("set(1) behind undo", 9, plan.set(1));
        for (int far : new int[] {-1, 10, Checks.MOST, Checks.LEAST}) {
            CHECKS.dueThrow(plan, "set(" + far + ")", Checks.ILLEGAL_ARGUMENT, () -> plan.set(far));
        }
    }
}
