import java.util.ArrayList;
import java.util.Arrays;
import java.util.List;

/** Promises 19 to 23: ifDug, ifGiven, allCost, openShare, digest. */
public final class WouldBeTest {
    private static final Checks CHECKS = new Checks("WouldBeTest");

    public static void main(String[] arguments) {
        ifDug();
        ifDugRefused();
        ifGiven();
        allCost();
        openShare();
        digest();
        digestOfAll();
        nothingIsChanged();
        CHECKS.end();
    }

    private static void dueIfDug(CorridorPlan plan, int x, int y, int closed, int facing, int cost) {
        CHECKS.due("ifDug(" + x + ", " + y + ", 0)", closed, plan.ifDug(x, y, 0));
        CHECKS.due("ifDug(" + x + ", " + y + ", 1)", facing, plan.ifDug(x, y, 1));
        CHECKS.due("ifDug(" + x + ", " + y + ", 2)", cost, plan.ifDug(x, y, 2));
    }

    private static void ifDug() {
        CHECKS.promise("19, ifDug");
        CorridorPlan plan = Checks.threeInARow();
        plan.walk(0, 1, 1);
        plan.walk(1, 2, 2);
        Checks.digAll(plan, 18, 19, 20);
        plan.set(3);
        dueIfDug(plan, 5, 1, 1, 1, 8);
        dueIfDug(plan, 4, 1, 2, 0, 10);
        dueIfDug(plan, 8, 1, 2, 0, 8);
        dueIfDug(plan, 15, 11, 2, 0, 9);
        plan.dig(5, 1);
        dueIfDug(plan, 3, 1, 2, 0, 9);
        dueIfDug(plan, 0, 0, 1, 1, 8);
        dueIfDug(plan, 0, 1, -1, -1, -1);
        dueIfDug(plan, 13, 2, -1, -1, -1);
        dueIfDug(new CorridorPlan(), 8, 6, 0, 0, 0);
    }

    private static void ifDugRefused() {
        CorridorPlan plan = Checks.threeInARow();
        int[][] wrong = {{-1, 0, 0}, {16, 0, 0}, {0, -1, 0}, {0, 12, 0}, {0, 0, -1}, {0, 0, 3}, {0, 1, 3}, {0, 1, -1},
            {Checks.MOST, 0, 0}, {0, Checks.LEAST, 0}, {0, 0, Checks.MOST}};
        for (int[] call : wrong) {
            CHECKS.dueThrow(plan, "ifDug" + Arrays.toString(call), Checks.ILLEGAL_ARGUMENT,
                    () -> plan.ifDug(call[0], call[1], call[2]));
        }
    }

    /** A chamber that is given up is dug, so the others' ways go over its squares; nobody walks to it any more. */
    private static void ifGiven() {
        CHECKS.promise("20, ifGiven");
        CorridorPlan plan = Checks.threeInARow();
        plan.walk(0, 1, 1);
        plan.walk(1, 2, 1);
        plan.walk(0, 2, 1);
        CHECKS.due("count(7)", 20, plan.count(7));
        CHECKS.due("ifGiven(0)", 4, plan.ifGiven(0));
        CHECKS.due("ifGiven(1)", 8, plan.ifGiven(1));
        CHECKS.due("ifGiven(2)", 4, plan.ifGiven(2));
        plan.carve(0, 1);
        CHECKS.due("ifGiven(1), with A and B open", 4, plan.ifGiven(1));
        CHECKS.due("ifGiven(2), with A and B open", 0, plan.ifGiven(2));
        CHECKS.due("ifGiven(0), the one left out has no way", 0, Checks.noWayForCarts().ifGiven(0));
        for (int number : new int[] {-1, 3, 6, Checks.MOST, Checks.LEAST}) {
            CHECKS.dueThrow(plan, "ifGiven(" + number + ")", Checks.OUT_OF_BOUNDS, () -> plan.ifGiven(number));
        }
    }

    private static void allCost() {
        CHECKS.promise("21, allCost");
        CorridorPlan plan = Checks.threeInARow();
        CHECKS.due("allCost(), nobody walks", 0, plan.allCost());
        plan.walk(1, 2, 2);
        plan.walk(0, 2, 1);
        plan.walk(1, 0, 1);
        CHECKS.due("allCost(), ways that share squares", 16, plan.allCost());
        CHECKS.due("count(1), nothing is dug", 0, plan.count(1));
        plan.carve(0, 1);
        CHECKS.due("allCost(), with A and B open", 12, plan.allCost());
        plan.carveAll();
        CHECKS.due("allCost(), all are open", 0, plan.allCost());
        CHECKS.due("allCost(), a square once", 68, Checks.windingForCarts().allCost());
        CHECKS.due("allCost(), no way", 0, Checks.noWayForCarts().allCost());
    }

    private static void openShare() {
        CHECKS.promise("22, openShare");
        CorridorPlan plan = Checks.threeInARow();
        CHECKS.same("openShare(), nobody walks", 1.0, plan.openShare());
        plan.walk(0, 1, 1);
        CHECKS.same("openShare(), none of 1", 0.0, plan.openShare());
        plan.carve(0, 1);
        CHECKS.same("openShare(), 1 of 1", 1.0, plan.openShare());
        plan.walk(1, 2, 2);
        CHECKS.same("openShare(), 1 of 2", 0.5, plan.openShare());
        plan.walk(0, 2, 1);
        CHECKS.same("openShare(), 1 of 3", 1.0 / 3.0, plan.openShare());
        plan.carve(0, 2);
        CHECKS.same("openShare(), 2 of 3", 2.0 / 3.0, plan.openShare());
        CHECKS.same("openShare(), none of 1, no way", 0.0, Checks.noWayForCarts().openShare());
    }

    private static void digest() {
        CHECKS.promise("23, digest");
        List<Long> values = new ArrayList<>(List.of(0L, 0L, 192L, 0L, 0L, 0L, 0L, 0L, 0L, 2L));
        for (int square = 0; square < 192; square++) {
            values.add(-2L);
        }
        values.addAll(List.of(0L, 0L, 0L, 0L, 0x3FF0000000000000L, 0L));
        CHECKS.due("digest() of a new plan", Digests.hash(values), new CorridorPlan().digest());
        CorridorPlan plan = new CorridorPlan();
        plan.append(33);
        values.set(values.size() - 1, 1L);
        values.add(33L);
        CHECKS.due("digest() with a buffer", Digests.hash(values), plan.digest());
    }

    /** Plans with each share of open ways that there can be, by what the looks answer. */
    private static void digestOfAll() {
        CHECKS.due("digest()", Digests.of(Checks.noWayForCarts(), 2, ""), Checks.noWayForCarts().digest());
        CHECKS.due("digest()", Digests.of(Checks.windingForCarts(), 2, ""), Checks.windingForCarts().digest());
        for (int steps = 0; steps <= 30; steps++) {
            CHECKS.due("digest() behind " + steps + " steps", Digests.of(sixChambers(steps), 2, "AB:one;"),
                    sixChambers(steps).digest());
        }
        CHECKS.due("digest() without A", Digests.of(withoutTheFirst(), 2, "AB:one;"), withoutTheFirst().digest());
        CorridorPlan inTheMiddle = new CorridorPlan();
        inTheMiddle.room(7, 5, 3, 3);
        inTheMiddle.room(1, 1, 1, 1);
        CHECKS.due("digest() with (8, 6) in A", Digests.of(inTheMiddle, 2, ""), inTheMiddle.digest());
    }

    /** Six chambers; the steps 1 to 15 tell who walks between each two, the steps 16 to 30 carve their ways. */
    private static CorridorPlan sixChambers(int steps) {
        CorridorPlan plan = new CorridorPlan();
        for (int room = 0; room < 6; room++) {
            plan.room(1 + 5 * (room % 3), 1 + 5 * (room / 3), 2, 2 + room / 3);
        }
        Checks.type(plan, "AB:one;");
        int step = 0;
        for (int round = 0; round < 2; round++) {
            for (int one = 0; one < 6; one++) {
                for (int other = one + 1; other < 6; other++) {
                    step++;
                    if (step <= steps && round == 0) {
                        plan.walk(one, other, 1 + (one + other) % 3);
                    } else if (step <= steps) {
                        plan.carve(one, other);
                    }
                }
            }
        }
        return plan;
    }

    private static CorridorPlan withoutTheFirst() {
        CorridorPlan plan = sixChambers(22);
        plan.give(0);
        return plan;
    }

    private static void nothingIsChanged() {
        CHECKS.promise("15 to 23, looks and what would be");
        CorridorPlan plan = Checks.threeInARow();
        plan.walk(0, 1, 2);
        plan.walk(0, 2, 1);
        plan.dig(3, 1);
        Checks.type(plan, "AB:");
        String before = Checks.picture(plan);
        long digest = plan.digest();
        plan.ifDug(3, 1, 2);
        plan.ifDug(9, 9, 0);
        plan.ifGiven(1);
        plan.allCost();
        plan.openShare();
        plan.way(0, 1, 3);
        plan.chamber(0, 7);
        plan.count(7);
        CHECKS.same("the plan", before, Checks.picture(plan));
        CHECKS.due("digest()", digest, plan.digest());
        CHECKS.due("count(8)", 6, plan.count(8));
        CHECKS.due("clearBuffer()", 3, plan.clearBuffer());
    }
}
