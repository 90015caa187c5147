/**
 * Promises 5 to 9 (dig, carve, carveAll, fillUp, set): a test of its own for each boundary case that the document
 * names.
 */
public final class DiggingEdgeTest {
    private static final Checks CHECKS = new Checks("DiggingEdgeTest");

    public static void main(String[] arguments) {
        CHECKS.runEach(DiggingEdgeTest.class);
        CHECKS.end();
    }

    // ---- 5, dig

    /** Also none of the squares is dug that have the number of a square out of range. */
    private static void dueDigRefused(Class<?> want, int x, int y) {
        CorridorPlan plan = Checks.plan("", "####AAA", "####AAA", "####AAA");
        CHECKS.dueThrow(plan, "dig(" + x + ", " + y + ")", want, () -> plan.dig(x, y));
        CHECKS.due("count(1) behind it", 0, plan.count(1));
    }

    static void promise5_xBelow0IsRefused() {
        dueDigRefused(Checks.ILLEGAL_ARGUMENT, -1, 0);
        dueDigRefused(Checks.ILLEGAL_ARGUMENT, -1, 5);
        dueDigRefused(Checks.ILLEGAL_ARGUMENT, Checks.LEAST, 5);
    }

    static void promise5_x16IsRefused() {
        dueDigRefused(Checks.ILLEGAL_ARGUMENT, 16, 0);
        dueDigRefused(Checks.ILLEGAL_ARGUMENT, 16, 11);
        dueDigRefused(Checks.ILLEGAL_ARGUMENT, Checks.MOST, 5);
    }

    static void promise5_yBelow0IsRefused() {
        dueDigRefused(Checks.ILLEGAL_ARGUMENT, 0, -1);
        dueDigRefused(Checks.ILLEGAL_ARGUMENT, 15, -1);
        dueDigRefused(Checks.ILLEGAL_ARGUMENT, 5, Checks.LEAST);
    }

    static void promise5_y12IsRefused() {
        dueDigRefused(Checks.ILLEGAL_ARGUMENT, 0, 12);
        dueDigRefused(Checks.ILLEGAL_ARGUMENT, 15, 12);
        dueDigRefused(Checks.ILLEGAL_ARGUMENT, 5, Checks.MOST);
    }

    static void promise5_aNumberThatWrapsAroundIsRefused() {
        dueDigRefused(Checks.ILLEGAL_ARGUMENT, 0, 1 << 28);
        dueDigRefused(Checks.ILLEGAL_ARGUMENT, 3, (1 << 28) + 4);
    }

    static void promise5_eachCornerOfThePlanIsASquare() {
        for (int square : new int[] {0, 15, 176, 191}) {
            CorridorPlan plan = new CorridorPlan();
            CHECKS.due("dig() of " + square, 1, plan.dig(square % 16, square / 16));
            for (int number = 0; number < 192; number++) {
                CHECKS.due("square() of " + number + " behind dig() of " + square, number == square ? -1 : -2,
                        plan.square(number % 16, number / 16, 0));
            }
        }
    }

    static void promise5_rockIsDug() {
        CorridorPlan plan = new CorridorPlan();
        CHECKS.due("dig(5, 6)", 1, plan.dig(5, 6));
        CHECKS.due("square(5, 6, 0)", -1, plan.square(5, 6, 0));
    }

    static void promise5_aDugSquareIsFilled() {
        CorridorPlan plan = new CorridorPlan();
        plan.dig(5, 6);
        CHECKS.due("dig(5, 6)", 0, plan.dig(5, 6));
        CHECKS.due("square(5, 6, 0)", -2, plan.square(5, 6, 0));
        CHECKS.due("dig(5, 6)", 1, plan.dig(5, 6));
    }

    static void promise5_eachSquareOfAChamberIsRefused() {
        for (int square = 0; square < 9; square++) {
            dueDigRefused(Checks.ILLEGAL_STATE, 4 + square % 3, 1 + square / 3);
        }
    }

    static void promise5_squaresBesideAChamberAreDug() {
        CorridorPlan plan = Checks.plan("", "#A");
        Checks.digAll(plan, 1, 16, 18, 33);
        CHECKS.duePicture(plan, "behind dig()", "#.", ".A.", "#.");
    }

    static void promise5_aSquareOfAChamberGivenUpIsFilled() {
        CorridorPlan plan = Checks.plan("AA");
        plan.give(0);
        CHECKS.due("dig(1, 0)", 0, plan.dig(1, 0));
        CHECKS.duePicture(plan, "behind dig(1, 0)", ".#");
    }

    static void promise5_aRefusedCallLeavesTheSavedStates() {
        CorridorPlan outside = Checks.plan("A");
        CHECKS.dueSavedStatesStay(outside, "dig(16, 0)", Checks.ILLEGAL_ARGUMENT, () -> outside.dig(16, 0));
        CorridorPlan chamber = Checks.plan("A");
        CHECKS.dueSavedStatesStay(chamber, "dig(0, 0)", Checks.ILLEGAL_STATE, () -> chamber.dig(0, 0));
    }

    static void promise5_isUndoable() {
        CorridorPlan plan = new CorridorPlan();
        plan.dig(5, 6);
        plan.dig(5, 6);
        CHECKS.due("undo(), of what was filled", 1, plan.undo());
        CHECKS.due("square(5, 6, 0)", -1, plan.square(5, 6, 0));
        CHECKS.due("undo(), of what was dug", 0, plan.undo());
        CHECKS.due("square(5, 6, 0)", -2, plan.square(5, 6, 0));
    }

    // ---- 6, carve

    private static void dueCarveRefused(CorridorPlan plan, Class<?> want, int one, int other) {
        CHECKS.dueThrow(plan, "carve(" + one + ", " + other + ")", want, () -> plan.carve(one, other));
    }

    static void promise6_noChamberIsThere() {
        int[][] pairs = {{-1, 1}, {0, -1}, {3, 1}, {0, 3}, {6, 1}, {0, 6}, {Checks.LEAST, 0}, {0, Checks.MOST}};
        for (int[] pair : pairs) {
            dueCarveRefused(Checks.plan("A#B#C"), Checks.OUT_OF_BOUNDS, pair[0], pair[1]);
        }
    }

    static void promise6_bothAreTheSame() {
        dueCarveRefused(Checks.plan("A#B#C"), Checks.ILLEGAL_ARGUMENT, 0, 0);
        dueCarveRefused(Checks.plan("A#B#C"), Checks.ILLEGAL_ARGUMENT, 2, 2);
    }

    static void promise6_noChamberIsNamedBeforeBothTheSame() {
        dueCarveRefused(Checks.plan("A#B#C"), Checks.OUT_OF_BOUNDS, 3, 3);
        dueCarveRefused(Checks.plan("A#B#C"), Checks.OUT_OF_BOUNDS, -1, -1);
    }

    /** Around A there are only B, C and D, corner at corner. */
    private static CorridorPlan shutIn() {
        return Checks.plan("A#C", "#B", "D", "", "", "#####E");
    }

    static void promise6_thereIsNoWayForOne() {
        dueCarveRefused(shutIn(), Checks.ILLEGAL_STATE, 0, 4);
        dueCarveRefused(shutIn(), Checks.ILLEGAL_STATE, 4, 0);
        CHECKS.due("carve(4, 1)", 7, shutIn().carve(4, 1));
    }

    static void promise6_bothTheSameIsNamedBeforeNoWay() {
        CorridorPlan plan = Checks.noWayForCarts();
        dueCarveRefused(plan, Checks.ILLEGAL_ARGUMENT, 0, 0);
        dueCarveRefused(plan, Checks.OUT_OF_BOUNDS, 0, 2);
    }

    /** A wall of chambers is between A and B, that leaves so many rows or columns; the last of them is told. */
    private static void dueFitsThrough(CorridorPlan plan, int gap, int width, int last) {
        plan.walk(0, 1, width);
        if (width > gap) {
            dueCarveRefused(plan, Checks.ILLEGAL_STATE, 0, 1);
        } else {
            plan.carve(0, 1);
            CHECKS.due("way(0, 1, 0) of width " + width + " through " + gap, 0, plan.way(0, 1, 0));
            CHECKS.due("square() of " + last + " with width " + width + " through " + gap, width == gap ? -1 : -2,
                    plan.square(last % 16, last / 16, 0));
        }
    }

    private static CorridorPlan leftAndRight() {
        CorridorPlan plan = new CorridorPlan();
        plan.room(1, 5, 2, 2);
        plan.room(13, 5, 2, 2);
        return plan;
    }

    private static CorridorPlan aboveAndBelow() {
        CorridorPlan plan = new CorridorPlan();
        plan.room(7, 1, 2, 2);
        plan.room(7, 9, 2, 2);
        return plan;
    }

    static void promise6_aWalkerJustFitsThroughAtTheBottom() {
        for (int gap = 0; gap <= 3; gap++) {
            for (int width = 1; width <= 3; width++) {
                CorridorPlan plan = leftAndRight();
                plan.room(7, 0, 1, 6);
                plan.room(8, 6, 1, 6 - gap);
                dueFitsThrough(plan, gap, width, 11 * 16 + 8);
            }
        }
    }

    static void promise6_aWalkerJustFitsThroughAtTheTop() {
        for (int gap = 0; gap <= 3; gap++) {
            for (int width = 1; width <= 3; width++) {
                CorridorPlan plan = leftAndRight();
                plan.room(7, gap, 1, 6 - gap);
                plan.room(8, 6, 1, 6);
                dueFitsThrough(plan, gap, width, 7);
            }
        }
    }

    static void promise6_aWalkerJustFitsThroughAtTheRight() {
        for (int gap = 0; gap <= 3; gap++) {
            for (int width = 1; width <= 3; width++) {
                CorridorPlan plan = aboveAndBelow();
                plan.room(0, 5, 6, 1);
                plan.room(6, 6, 6, 1);
                plan.room(12, 5, 4 - gap, 1);
                dueFitsThrough(plan, gap, width, 5 * 16 + 15);
            }
        }
    }

    static void promise6_aWalkerJustFitsThroughAtTheLeft() {
        for (int gap = 0; gap <= 3; gap++) {
            for (int width = 1; width <= 3; width++) {
                CorridorPlan plan = aboveAndBelow();
                plan.room(10, 5, 6, 1);
                plan.room(4, 6, 6, 1);
                plan.room(gap, 5, 4 - gap, 1);
                dueFitsThrough(plan, gap, width, 5 * 16);
            }
        }
    }

    static void promise6_anOpenWayNeedsNoDigging() {
        CorridorPlan plan = Checks.plan("A..B");
        CHECKS.due("carve(0, 1)", 0, plan.carve(0, 1));
        CHECKS.duePicture(plan, "behind carve(0, 1)", "A..B");
    }

    static void promise6_oneSquareIsLeftToDig() {
        CorridorPlan plan = Checks.plan("A.#.B");
        CHECKS.due("carve(0, 1)", 1, plan.carve(0, 1));
        CHECKS.duePicture(plan, "behind carve(0, 1)", "A...B");
    }

    static void promise6_aWayOfOnePlaceAlone() {
        CHECKS.due("carve(0, 1), for one", 1, Checks.plan("A#B").carve(0, 1));
        CorridorPlan plan = Checks.plan("A###B");
        plan.walk(0, 1, 3);
        CHECKS.due("carve(0, 1), for a cart", 9, plan.carve(0, 1));
        CHECKS.duePicture(plan, "behind carve(0, 1)", "A...B", "#...", "#...");
    }

    /** Two squares of the way are dug already, and C keeps it from going past the corner. */
    static void promise6_eachCornerOfThePlanIsDug() {
        for (int corner : new int[] {0, 15, 176, 191}) {
            int x = corner % 16;
            int y = corner / 16;
            int inX = x == 0 ? 1 : -1;
            int inY = y == 0 ? 1 : -1;
            CorridorPlan plan = new CorridorPlan();
            plan.room(x, y + 2 * inY, 1, 1);
            plan.room(x + 2 * inX, y, 1, 1);
            plan.room(x + inX, y + inY, 1, 1);
            plan.dig(x, y + inY);
            plan.dig(x + inX, y);
            CHECKS.due("carve(0, 1) around the corner " + corner, 1, plan.carve(0, 1));
            CHECKS.due("square() of the corner " + corner, -1, plan.square(x, y, 0));
        }
    }

    static void promise6_noEarlierWayIsDugAgain() {
        CorridorPlan plan = Checks.plan("#A", "B", "", "C#D");
        CHECKS.due("carve(0, 1)", 1, plan.carve(0, 1));
        plan.dig(0, 0);
        CHECKS.due("carve(2, 3)", 1, plan.carve(2, 3));
        CHECKS.duePicture(plan, "behind carve(2, 3)", "#A", "B", "", "C.D");
    }

    static void promise6_aSquareIsCountedOnce() {
        CorridorPlan plan = Checks.windingForCarts();
        CHECKS.due("way(0, 1, 0)", 69, plan.way(0, 1, 0));
        CHECKS.due("carve(0, 1)", 68, plan.carve(0, 1));
        CHECKS.due("count(1)", 68, plan.count(1));
    }

    static void promise6_widthIs1IfNobodyWalks() {
        CorridorPlan plan = Checks.plan("AA##BB", "AA##BB");
        CHECKS.due("carve(0, 1)", 2, plan.carve(0, 1));
        CHECKS.duePicture(plan, "behind carve(0, 1)", "AA..BB", "AA##BB");
    }

    static void promise6_eachWidthDigsAllItsSquares() {
        String[][] pictures = {{"", "AA....BB", "AA####BB"}, {"##....", "AA....BB", "AA####BB"},
            {"##....", "AA....BB", "AA....BB"}};
        for (int width = 1; width <= 3; width++) {
            CorridorPlan plan = Checks.plan("", "AA####BB", "AA####BB");
            plan.walk(1, 0, width);
            CHECKS.due("carve(0, 1) of width " + width, 4 * width, plan.carve(0, 1));
            CHECKS.duePicture(plan, "behind carve(0, 1) of width " + width, pictures[width - 1]);
        }
    }

    static void promise6_theFormerDecidesWhichWayComesFirst() {
        CorridorPlan down = Checks.twoSides();
        down.carve(0, 1);
        CHECKS.due("square(6, 2, 0) behind carve(0, 1)", -1, down.square(6, 2, 0));
        CHECKS.due("square(4, 3, 0) behind carve(0, 1)", -2, down.square(4, 3, 0));
        CorridorPlan up = Checks.twoSides();
        up.carve(1, 0);
        CHECKS.due("square(6, 2, 0) behind carve(1, 0)", -2, up.square(6, 2, 0));
        CHECKS.due("square(4, 3, 0) behind carve(1, 0)", -1, up.square(4, 3, 0));
    }

    static void promise6_aRefusedCallLeavesTheSavedStates() {
        CorridorPlan missing = Checks.plan("A#B");
        CHECKS.dueSavedStatesStay(missing, "carve(0, 2)", Checks.OUT_OF_BOUNDS, () -> missing.carve(0, 2));
        CorridorPlan same = Checks.plan("A#B");
        CHECKS.dueSavedStatesStay(same, "carve(1, 1)", Checks.ILLEGAL_ARGUMENT, () -> same.carve(1, 1));
        CorridorPlan noWay = Checks.noWayForCarts();
        CHECKS.dueSavedStatesStay(noWay, "carve(0, 1)", Checks.ILLEGAL_STATE, () -> noWay.carve(0, 1));
    }

    static void promise6_isUndoableAlsoIfItChangesNothing() {
        CorridorPlan plan = Checks.plan("A##B");
        plan.carve(0, 1);
        plan.carve(0, 1);
        CHECKS.due("count(8)", 4, plan.count(8));
        CHECKS.due("undo(), of nothing dug", 3, plan.undo());
        CHECKS.duePicture(plan, "behind undo()", "A..B");
        CHECKS.due("undo()", 2, plan.undo());
        CHECKS.duePicture(plan, "behind both undo()", "A##B");
    }

    // ---- 7, carveAll

    static void promise7_nobodyWalks() {
        CorridorPlan plan = Checks.plan("A#B");
        CHECKS.due("carveAll()", 0, plan.carveAll());
        CHECKS.duePicture(plan, "behind carveAll()", "A#B");
        CHECKS.due("carveAll() without chambers", 0, new CorridorPlan().carveAll());
    }

    static void promise7_allWaysAreOpen() {
        CorridorPlan plan = Checks.plan("A.B");
        plan.walk(0, 1, 1);
        CHECKS.due("carveAll()", 0, plan.carveAll());
        CHECKS.duePicture(plan, "behind carveAll()", "A.B");
    }

    static void promise7_twoWithoutAnyWayAreLeftOut() {
        CorridorPlan plan = shutIn();
        plan.walk(0, 4, 1);
        CHECKS.due("carveAll()", 0, plan.carveAll());
        CHECKS.due("count(1)", 0, plan.count(1));
        plan.walk(1, 4, 1);
        CHECKS.due("carveAll(), of the two that have a way", 1, plan.carveAll());
        CHECKS.due("way(1, 4, 0)", 0, plan.way(1, 4, 0));
    }

    static void promise7_twoBetweenWhichNobodyWalksAreLeftOut() {
        CorridorPlan plan = Checks.plan("A#B#C");
        plan.walk(1, 2, 1);
        CHECKS.due("carveAll()", 1, plan.carveAll());
        CHECKS.duePicture(plan, "behind carveAll()", "A#B.C");
    }

    static void promise7_theLeastCostIsDugFirst() {
        CorridorPlan plan = Checks.plan("##C", "#B##A", "#B");
        plan.walk(0, 1, 2);
        plan.walk(1, 2, 1);
        CHECKS.due("carveAll()", 2, plan.carveAll());
        CHECKS.duePicture(plan, "behind carveAll()", "#.C", "#B..A", "#B..");
    }

    /** A and D cost as much as B and C; the latter two first would leave only 3 to dig for the former two. */
    static void promise7_ofEqualCostsTheLowestFormerIsFirst() {
        CorridorPlan plan = Checks.plan("#B#D", "C##D", "C###A");
        plan.walk(1, 2, 2);
        plan.walk(3, 0, 2);
        CHECKS.due("way(0, 3, 0)", 4, plan.way(0, 3, 0));
        CHECKS.due("way(1, 2, 0)", 4, plan.way(1, 2, 0));
        CHECKS.due("carveAll()", 2, plan.carveAll());
        CHECKS.duePicture(plan, "behind carveAll()", "#B#D..", "C..D..", "C..#A");
    }

    /** A and B cost as much as A and C, which are open behind it; the other order would dig two ways. */
    static void promise7_ofOneFormerTheLowestLatterIsFirst() {
        CorridorPlan plan = Checks.plan("##C", "A##BB", "A##BB");
        plan.walk(0, 2, 1);
        plan.walk(0, 1, 1);
        CHECKS.due("way(0, 1, 0)", 2, plan.way(0, 1, 0));
        CHECKS.due("way(0, 2, 0)", 2, plan.way(0, 2, 0));
        CHECKS.due("carveAll()", 1, plan.carveAll());
        CHECKS.duePicture(plan, "behind carveAll()", "##C", "A..BB", "A##BB");
    }

    static void promise7_theLowerOneIsTheFormer() {
        CorridorPlan plan = Checks.twoSides();
        plan.walk(1, 0, 1);
        CHECKS.due("carveAll()", 1, plan.carveAll());
        CHECKS.due("square(6, 2, 0)", -1, plan.square(6, 2, 0));
        CHECKS.due("square(4, 3, 0)", -2, plan.square(4, 3, 0));
    }

    /** A and B cost as much as B and C; but B and C cost less as soon as A and C are dug, and come next then. */
    static void promise7_theCostsAreToldAgainBehindEachWay() {
        CorridorPlan plan = Checks.plan("B#A#C", "B#A");
        plan.walk(0, 1, 2);
        plan.walk(0, 2, 1);
        plan.walk(1, 2, 1);
        CHECKS.due("way(0, 1, 0)", 6, plan.way(0, 1, 0));
        CHECKS.due("way(0, 2, 0)", 1, plan.way(0, 2, 0));
        CHECKS.due("way(1, 2, 0)", 6, plan.way(1, 2, 0));
        CHECKS.due("carveAll()", 3, plan.carveAll());
        CHECKS.duePicture(plan, "behind carveAll()", "B#A.C", "B.A.", "....", "...");
    }

    /** None of the fifteen ways is opened by digging the others. */
    static void promise7_allFifteenWaysAreDug() {
        CorridorPlan plan = Checks.plan("", "", "", "#E###########B", "#E###########B", "#E###########B", "#E######D#F",
                "########D#F", "########D#F#A", "#CC#####D");
        int[] widths = {1, 1, 1, 2, 1, 2, 3, 3, 3, 1, 1, 2, 2, 2, 1};
        int pair = 0;
        for (int one = 0; one < 6; one++) {
            for (int other = one + 1; other < 6; other++) {
                plan.walk(one, other, widths[pair]);
                pair++;
            }
        }
        CHECKS.due("carveAll()", 15, plan.carveAll());
        CHECKS.due("count(4)", 0, plan.count(4));
        CHECKS.due("count(7)", 0, plan.count(7));
        CHECKS.same("openShare()", 1.0, plan.openShare());
    }

    static void promise7_isUndoableAsOneCall() {
        CorridorPlan plan = Checks.plan("A#B#C");
        plan.walk(0, 1, 1);
        plan.walk(1, 2, 1);
        CHECKS.due("carveAll()", 2, plan.carveAll());
        CHECKS.due("count(8)", 6, plan.count(8));
        CHECKS.due("undo()", 5, plan.undo());
        CHECKS.duePicture(plan, "behind undo()", "A#B#C");
        CHECKS.due("way(1, 2, 4)", 1, plan.way(1, 2, 4));
    }

    static void promise7_isUndoableAlsoIfItChangesNothing() {
        CorridorPlan plan = new CorridorPlan();
        plan.carveAll();
        CHECKS.due("count(8)", 1, plan.count(8));
        CHECKS.due("undo()", 0, plan.undo());
    }

    // ---- 8, fillUp

    static void promise8_nothingIsDug() {
        CorridorPlan plan = Checks.plan("A#B");
        plan.walk(0, 1, 1);
        CHECKS.due("fillUp()", 0, plan.fillUp());
        CHECKS.duePicture(plan, "behind fillUp()", "A#B");
        CHECKS.due("fillUp() without chambers", 0, new CorridorPlan().fillUp());
    }

    static void promise8_allIsDug() {
        CorridorPlan plan = new CorridorPlan();
        for (int square = 0; square < 192; square++) {
            plan.dig(square % 16, square / 16);
        }
        CHECKS.due("fillUp()", 192, plan.fillUp());
        CHECKS.due("count(2)", 192, plan.count(2));
    }

    static void promise8_nobodyWalks() {
        CorridorPlan plan = Checks.plan("A.B");
        CHECKS.due("fillUp()", 1, plan.fillUp());
        CHECKS.duePicture(plan, "behind fillUp()", "A#B");
    }

    static void promise8_aWayWithOneSquareOfRockIsNotOpen() {
        CorridorPlan plan = Checks.plan("A..#.B");
        plan.walk(0, 1, 1);
        CHECKS.due("fillUp()", 3, plan.fillUp());
        CHECKS.duePicture(plan, "behind fillUp()", "A####B");
    }

    static void promise8_aWayThatIsNotBroadEnoughIsNotOpen() {
        CorridorPlan plan = Checks.plan("AA..BB", "AA.#BB");
        plan.walk(0, 1, 2);
        CHECKS.due("fillUp()", 3, plan.fillUp());
        CHECKS.duePicture(plan, "behind fillUp()", "AA##BB", "AA##BB");
    }

    static void promise8_allSquaresOfABroadWayStay() {
        CorridorPlan plan = Checks.plan("#......", "A......B", "#......", "#......");
        plan.walk(0, 1, 3);
        CHECKS.due("fillUp()", 6, plan.fillUp());
        CHECKS.duePicture(plan, "behind fillUp()", "#......", "A......B", "#......");
    }

    static void promise8_onlyTheLeastOfSeveralOpenWaysStays() {
        CorridorPlan plan = Checks.plan("#....", "A#..B", "A...B");
        plan.walk(0, 1, 1);
        CHECKS.due("fillUp()", 6, plan.fillUp());
        CHECKS.duePicture(plan, "behind fillUp()", "", "A###B", "A...B");
    }

    static void promise8_theLowerOneIsTheFormer() {
        CorridorPlan plan = Checks.twoSides();
        plan.walk(1, 0, 1);
        CHECKS.due("carve(1, 0)", 7, plan.carve(1, 0));
        Checks.digAll(plan, 38, 54, 70, 86, 102, 118, 134);
        CHECKS.due("fillUp()", 7, plan.fillUp());
        CHECKS.due("square(6, 2, 0)", -1, plan.square(6, 2, 0));
        CHECKS.due("square(4, 3, 0)", -2, plan.square(4, 3, 0));
    }

    static void promise8_theWaysOfAllWalkersStay() {
        CorridorPlan plan = Checks.plan("#.", "A.B.C", "#...#");
        plan.walk(0, 1, 1);
        plan.walk(1, 2, 1);
        plan.walk(0, 2, 1);
        CHECKS.due("fillUp()", 1, plan.fillUp());
        CHECKS.duePicture(plan, "behind fillUp()", "", "A.B.C", "#...#");
    }

    static void promise8_aWayAlongTheSidesOfThePlanStays() {
        for (int width = 1; width <= 3; width++) {
            for (int firstRow = 0; firstRow <= 6; firstRow += 6) {
                CorridorPlan plan = Checks.ring(width, firstRow);
                CHECKS.due("fillUp() of a ring of width " + width + " from row " + firstRow, 0, plan.fillUp());
            }
        }
    }

    static void promise8_aLongWayStays() {
        CorridorPlan plan = Checks.toAndFro();
        plan.walk(0, 1, 1);
        CHECKS.due("fillUp()", 0, plan.fillUp());
        CHECKS.due("count(1)", 99, plan.count(1));
    }

    static void promise8_noEarlierWayStays() {
        CorridorPlan plan = Checks.plan("#A", "B");
        plan.walk(0, 1, 1);
        CHECKS.due("carve(0, 1)", 1, plan.carve(0, 1));
        CHECKS.due("fillUp()", 0, plan.fillUp());
        plan.walk(0, 1, 0);
        CHECKS.due("fillUp() where nobody walks", 1, plan.fillUp());
        CHECKS.duePicture(plan, "behind fillUp()", "#A", "B");
    }

    static void promise8_chambersStay() {
        CorridorPlan plan = Checks.plan("AA.", "AA.");
        CHECKS.due("fillUp()", 2, plan.fillUp());
        CHECKS.duePicture(plan, "behind fillUp()", "AA", "AA");
        CHECKS.due("count(0)", 1, plan.count(0));
    }

    static void promise8_isUndoableAlsoIfItChangesNothing() {
        CorridorPlan plan = Checks.plan("A..B");
        plan.fillUp();
        plan.fillUp();
        CHECKS.due("count(8)", 6, plan.count(8));
        CHECKS.due("undo(), of nothing filled", 5, plan.undo());
        CHECKS.duePicture(plan, "behind undo()", "A##B");
        CHECKS.due("undo()", 4, plan.undo());
        CHECKS.duePicture(plan, "behind both undo()", "A..B");
    }

    // ---- 9, set

    private static void dueSetRefused(int far) {
        CorridorPlan plan = new CorridorPlan();
        plan.set(7);
        CHECKS.dueThrow(plan, "set(" + far + ")", Checks.ILLEGAL_ARGUMENT, () -> plan.set(far));
        CHECKS.due("set(1) behind it", 7, plan.set(1));
    }

    static void promise9_farBelow0IsRefused() {
        dueSetRefused(-1);
        dueSetRefused(Checks.LEAST);
    }

    static void promise9_farAbove9IsRefused() {
        dueSetRefused(10);
        dueSetRefused(Checks.MOST);
    }

    static void promise9_far0IsTheLeast() {
        CorridorPlan plan = Checks.plan("A..B", "", "C.D");
        plan.set(0);
        CHECKS.due("count(6)", 1, plan.count(6));
        CHECKS.due("set(1)", 0, plan.set(1));
        CHECKS.due("count(6)", 2, plan.count(6));
    }

    static void promise9_far9IsTheMost() {
        CorridorPlan plan = Checks.plan("A..........B", "", "C...........D");
        plan.set(8);
        CHECKS.due("count(6)", 0, plan.count(6));
        CHECKS.due("set(9)", 8, plan.set(9));
        CHECKS.due("count(6)", 1, plan.count(6));
        CHECKS.due("set(9)", 9, plan.set(9));
    }

    static void promise9_itIs2AtFirst() {
        CHECKS.due("set(2)", 2, new CorridorPlan().set(2));
    }

    static void promise9_aRefusedCallLeavesTheSavedStates() {
        CorridorPlan plan = new CorridorPlan();
        CHECKS.dueSavedStatesStay(plan, "set(10)", Checks.ILLEGAL_ARGUMENT, () -> plan.set(10));
    }

    static void promise9_isUndoableAlsoIfItChangesNothing() {
        CorridorPlan plan = new CorridorPlan();
        plan.set(9);
        plan.set(9);
        CHECKS.due("count(8)", 2, plan.count(8));
        CHECKS.due("undo(), of nothing changed", 1, plan.undo());
        CHECKS.due("undo()", 0, plan.undo());
        CHECKS.due("set(0)", 2, plan.set(0));
    }
}
