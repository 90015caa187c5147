import java.util.Arrays;

/** Promises 1 to 4: a new object, room, give, walk. */
public final class ChambersTest {
    private static final Checks CHECKS = new Checks("ChambersTest");

    public static void main(String[] arguments) {
        newObject();
        room();
        roomOutOfRange();
        roomNotThere();
        roomNumbers();
        give();
        walk();
        CHECKS.end();
    }

    private static void newObject() {
        CHECKS.promise("1, a new object");
        CorridorPlan plan = new CorridorPlan();
        CHECKS.due("NONE", -1, CorridorPlan.NONE);
        CHECKS.duePicture(plan, "at first");
        CHECKS.dueCounts(plan, "at first", 0, 0, 192, 0, 0, 0, 0, 0);
        CHECKS.due("count(8)", 0, plan.count(8));
        CHECKS.due("firstError()", 0, plan.firstError());
        CHECKS.due("clearBuffer()", 0, plan.clearBuffer());
        CHECKS.dueThrow(plan, "undo()", Checks.ILLEGAL_STATE, plan::undo);
        for (int number = -1; number <= 6; number++) {
            int room = number;
            CHECKS.dueThrow(plan, "chamber(" + room + ", 0)", Checks.OUT_OF_BOUNDS, () -> plan.chamber(room, 0));
        }
        CHECKS.due("set(5), what was at first", 2, plan.set(5));
        CHECKS.due("a second plan knows nothing of the first: set(0)", 2, new CorridorPlan().set(0));
    }

    private static void room() {
        CHECKS.promise("2, room");
        CorridorPlan plan = new CorridorPlan();
        CHECKS.due("room(0, 0, 6, 6)", 0, plan.room(0, 0, 6, 6));
        CHECKS.due("room(15, 11, 1, 1)", 1, plan.room(15, 11, 1, 1));
        CHECKS.due("room(10, 0, 6, 1)", 2, plan.room(10, 0, 6, 1));
        CHECKS.due("room(8, 6, 1, 6)", 3, plan.room(8, 6, 1, 6));
        String[] four = {"AAAAAA####CCCCCC", "AAAAAA##########", "AAAAAA##########", "AAAAAA##########",
            "AAAAAA##########", "AAAAAA##########", "########D#######", "########D#######", "########D#######",
            "########D#######", "########D#######", "########D######B"};
        CHECKS.duePicture(plan, "with four chambers", four);
        CHECKS.due("count(8)", 4, plan.count(8));
        CHECKS.due("room(0, 7, 2, 1)", 4, plan.room(0, 7, 2, 1));
        CHECKS.due("undo()", 4, plan.undo());
        CHECKS.duePicture(plan, "behind undo", four);
        CHECKS.dueThrow(plan, "chamber(4, 0) behind undo", Checks.OUT_OF_BOUNDS, () -> plan.chamber(4, 0));
    }

    private static void roomOutOfRange() {
        CorridorPlan plan = new CorridorPlan();
        int[][] boxes = {{0, 8, 0, 1}, {0, 8, 7, 1}, {0, 8, 1, 0}, {0, 2, 1, 7}, {0, 8, -1, 1}, {0, 8, 1, -1},
            {-1, 8, 1, 1}, {0, -1, 1, 1}, {16, 8, 1, 1}, {0, 12, 1, 1}, {15, 8, 2, 1}, {0, 11, 1, 2}, {11, 8, 6, 1},
            {0, 7, 1, 6}, {Checks.MOST, 8, 1, 1}, {0, Checks.MOST, 1, 6}, {Checks.LEAST, 8, 1, 1},
            {0, Checks.LEAST, 1, 1}, {0, 8, Checks.MOST, 1}, {0, 8, 1, Checks.LEAST}, {15, 11, 2, 2}};
        for (int[] box : boxes) {
            CHECKS.dueThrow(plan, "room" + Arrays.toString(box), Checks.ILLEGAL_ARGUMENT,
                    () -> plan.room(box[0], box[1], box[2], box[3]));
        }
    }

    private static void roomNotThere() {
        CorridorPlan plan = new CorridorPlan();
        plan.room(5, 5, 2, 2);
        int[][] boxes = {{5, 5, 2, 2}, {6, 6, 1, 1}, {4, 5, 1, 1}, {7, 6, 1, 1}, {5, 4, 1, 1}, {6, 7, 1, 1},
            {3, 3, 2, 3}, {4, 4, 4, 4}, {7, 1, 1, 6}, {0, 4, 6, 1}};
        for (int[] box : boxes) {
            CHECKS.dueThrow(plan, "room" + Arrays.toString(box), Checks.ILLEGAL_STATE,
                    () -> plan.room(box[0], box[1], box[2], box[3]));
        }
        CHECKS.due("room(4, 4, 1, 1), corner at corner", 1, plan.room(4, 4, 1, 1));
        CHECKS.due("room(7, 7, 1, 1), corner at corner", 2, plan.room(7, 7, 1, 1));
        plan.dig(10, 1);
        CHECKS.dueThrow(plan, "room(9, 1, 2, 1), over a dug square", Checks.ILLEGAL_STATE, () -> plan.room(9, 1, 2, 1));
        CHECKS.due("room(11, 1, 1, 1), beside a dug square", 3, plan.room(11, 1, 1, 1));
    }

    private static void roomNumbers() {
        CorridorPlan plan = new CorridorPlan();
        for (int number = 0; number < 6; number++) {
            CHECKS.due("room(" + 2 * number + ", 0, 1, 1)", number, plan.room(2 * number, 0, 1, 1));
        }
        CHECKS.dueThrow(plan, "a 7th room", Checks.ILLEGAL_STATE, () -> plan.room(0, 5, 1, 1));
        CHECKS.dueThrow(plan, "a 7th room without columns", Checks.ILLEGAL_ARGUMENT, () -> plan.room(0, 5, 0, 1));
        CHECKS.dueThrow(plan, "a 7th room outside", Checks.ILLEGAL_ARGUMENT, () -> plan.room(16, 5, 1, 1));
        plan.give(3);
        plan.give(1);
        CHECKS.due("room(0, 5, 1, 1), the lowest free number", 1, plan.room(0, 5, 1, 1));
        CHECKS.due("room(2, 5, 1, 1), the next free number", 3, plan.room(2, 5, 1, 1));
    }

    private static void give() {
        CHECKS.promise("3, give");
        CorridorPlan plan = Checks.threeInARow();
        plan.room(3, 5, 3, 2);
        plan.walk(3, 0, 2);
        plan.walk(1, 3, 1);
        plan.walk(0, 1, 3);
        CHECKS.due("give(3)", 6, plan.give(3));
        CHECKS.duePicture(plan, "behind give(3)", "################", "AA####BB####CC##", "AA####BB####CC##",
                "################", "################", "###...##########", "###...##########");
        CHECKS.due("count(0)", 3, plan.count(0));
        CHECKS.due("count(3), nobody walks to it", 1, plan.count(3));
        CHECKS.dueWay(plan, 0, 1, 12, 2, 2, 3, 3);
        CHECKS.dueThrow(plan, "give(3) again", Checks.OUT_OF_BOUNDS, () -> plan.give(3));
        CHECKS.due("room(7, 6, 1, 1)", 3, plan.room(7, 6, 1, 1));
        CHECKS.due("chamber(3, 6), nobody walks to the new one", 0, plan.chamber(3, 6));
        plan.undo();
        CHECKS.due("undo()", 4, plan.undo());
        CHECKS.duePicture(plan, "behind undo", "################", "AA####BB####CC##", "AA####BB####CC##",
                "################", "################", "###DDD##########", "###DDD##########");
        CHECKS.due("way(3, 0, 4) behind undo", 2, plan.way(3, 0, 4));
        CHECKS.due("way(3, 1, 4) behind undo", 1, plan.way(3, 1, 4));
        for (int number : new int[] {-1, 4, 5, 6, Checks.MOST, Checks.LEAST}) {
            CHECKS.dueThrow(plan, "give(" + number + ")", Checks.OUT_OF_BOUNDS, () -> plan.give(number));
        }
    }

    private static void walk() {
        CHECKS.promise("4, walk");
        CorridorPlan plan = Checks.threeInARow();
        CHECKS.due("walk(0, 1, 3)", 0, plan.walk(0, 1, 3));
        CHECKS.due("walk(1, 0, 1), the other way round", 3, plan.walk(1, 0, 1));
        CHECKS.due("count(8)", 5, plan.count(8));
        CHECKS.due("walk(0, 1, 1), nothing changes", 1, plan.walk(0, 1, 1));
        CHECKS.due("count(8), that is saved too", 6, plan.count(8));
        CHECKS.due("walk(2, 1, 2)", 0, plan.walk(2, 1, 2));
        CHECKS.due("count(3)", 2, plan.count(3));
        CHECKS.due("walk(0, 1, 0)", 1, plan.walk(0, 1, 0));
        CHECKS.due("count(3)", 1, plan.count(3));
        CHECKS.due("way(0, 1, 4)", 0, plan.way(0, 1, 4));
        CHECKS.due("way(0, 2, 4)", 0, plan.way(0, 2, 4));
        CHECKS.due("way(1, 2, 4)", 2, plan.way(1, 2, 4));
        CHECKS.due("undo()", 5, plan.undo());
        CHECKS.due("way(1, 0, 4) behind undo", 1, plan.way(1, 0, 4));
        int[][] noChamber = {{0, 3, 1}, {3, 0, 1}, {-1, 0, 1}, {0, 6, 1}, {3, 3, 1}, {6, 0, 9}, {0, -1, -1},
            {Checks.MOST, 0, 1}, {0, Checks.LEAST, 1}};
        for (int[] call : noChamber) {
            CHECKS.dueThrow(plan, "walk" + Arrays.toString(call), Checks.OUT_OF_BOUNDS,
                    () -> plan.walk(call[0], call[1], call[2]));
        }
        int[][] wrongArgument = {{0, 0, 1}, {2, 2, 4}, {0, 1, 4}, {0, 1, -1}, {1, 2, Checks.MOST},
            {1, 2, Checks.LEAST}};
        for (int[] call : wrongArgument) {
            CHECKS.dueThrow(plan, "walk" + Arrays.toString(call), Checks.ILLEGAL_ARGUMENT,
                    () -> plan.walk(call[0], call[1], call[2]));
        }
    }
}
