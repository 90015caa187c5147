/**
 * Promises 15 to 18 (square, chamber, way, count), and what the terms say of doors and ways: a test of its own for
 * each boundary case that the document names.
 */
public final class LooksEdgeTest {
    private static final Checks CHECKS = new Checks("LooksEdgeTest");

    public static void main(String[] arguments) {
        CHECKS.runEach(LooksEdgeTest.class);
        CHECKS.end();
    }

    // ---- 15, square

    private static void dueSquareRefused(int x, int y, int what) {
        CorridorPlan plan = Checks.plan("A.");
        CHECKS.dueThrow(plan, "square(" + x + ", " + y + ", " + what + ")", Checks.ILLEGAL_ARGUMENT,
                () -> plan.square(x, y, what));
    }

    static void promise15_xBelow0IsRefused() {
        dueSquareRefused(-1, 0, 0);
        dueSquareRefused(-1, 5, 1);
        dueSquareRefused(Checks.LEAST, 5, 0);
    }

    static void promise15_x16IsRefused() {
        dueSquareRefused(16, 0, 0);
        dueSquareRefused(16, 11, 1);
        dueSquareRefused(Checks.MOST, 5, 0);
    }

    static void promise15_yBelow0IsRefused() {
        dueSquareRefused(0, -1, 0);
        dueSquareRefused(15, -1, 1);
        dueSquareRefused(5, Checks.LEAST, 0);
    }

    static void promise15_y12IsRefused() {
        dueSquareRefused(0, 12, 0);
        dueSquareRefused(15, 12, 1);
        dueSquareRefused(5, Checks.MOST, 0);
    }

    static void promise15_aNumberThatWrapsAroundIsRefused() {
        dueSquareRefused(0, 1 << 28, 0);
        dueSquareRefused(1, (1 << 28) + 4, 1);
    }

    static void promise15_whatBelow0IsRefused() {
        dueSquareRefused(0, 0, -1);
        dueSquareRefused(1, 0, Checks.LEAST);
    }

    static void promise15_whatAbove1IsRefused() {
        dueSquareRefused(0, 0, 2);
        dueSquareRefused(1, 0, Checks.MOST);
    }

    static void promise15_eachCornerOfThePlanIsASquare() {
        CorridorPlan plan = new CorridorPlan();
        Checks.digAll(plan, 0, 191);
        plan.room(15, 0, 1, 1);
        CHECKS.due("square(0, 0, 0)", -1, plan.square(0, 0, 0));
        CHECKS.due("square(15, 0, 0)", 0, plan.square(15, 0, 0));
        CHECKS.due("square(0, 11, 0)", -2, plan.square(0, 11, 0));
        CHECKS.due("square(15, 11, 0)", -1, plan.square(15, 11, 0));
    }

    static void promise15_eachNumberOfAChamber() {
        CorridorPlan plan = Checks.plan("A#B#C", "", "D#E#F");
        for (int room = 0; room < 6; room++) {
            CHECKS.due("square() of chamber " + room, room, plan.square(2 * (room % 3), 2 * (room / 3), 0));
        }
    }

    static void promise15_rockIsNoDoor() {
        CHECKS.due("square(1, 0, 1)", 0, Checks.plan("A#B").square(1, 0, 1));
    }

    static void promise15_aSquareOfAChamberIsNoDoor() {
        CorridorPlan plan = Checks.plan("AA.", "AA.", "..");
        CHECKS.due("square(0, 0, 1)", 0, plan.square(0, 0, 1));
        CHECKS.due("square(1, 1, 1)", 0, plan.square(1, 1, 1));
    }

    static void promise15_aDugSquareAwayFromChambersIsNoDoor() {
        CHECKS.due("square(2, 0, 1)", 0, Checks.plan("A..").square(2, 0, 1));
    }

    static void promise15_aSquareAtACornerIsNoDoor() {
        CorridorPlan plan = Checks.plan(".#.", "#A", ".#.");
        for (int square : new int[] {0, 2, 32, 34}) {
            CHECKS.due("square() of " + square, 0, plan.square(square % 16, square / 16, 1));
        }
    }

    static void promise15_aDoorByEachOneOfFourSides() {
        CorridorPlan plan = Checks.plan("#.", ".A.", "#.");
        for (int square : new int[] {1, 16, 18, 33}) {
            CHECKS.due("square() of " + square, 1, plan.square(square % 16, square / 16, 1));
        }
    }

    static void promise15_aDoorByTwoToFourSides() {
        CHECKS.due("square(1, 0, 1), of two", 2, Checks.plan("A.B").square(1, 0, 1));
        CHECKS.due("square(1, 0, 1), of two at a corner", 2, Checks.plan("A.", "#B").square(1, 0, 1));
        CHECKS.due("square(1, 0, 1), of three", 3, Checks.plan("A.B", "#C").square(1, 0, 1));
        CHECKS.due("square(1, 1, 1), of four", 4, Checks.plan("#A", "B.C", "#D").square(1, 1, 1));
    }

    static void promise15_noDoorAroundTheSidesOfThePlan() {
        CorridorPlan right = Checks.plan("", "###############A", "", "", "");
        Checks.digAll(right, 16, 32, 0);
        for (int square : new int[] {0, 16, 32}) {
            CHECKS.due("square() of " + square, 0, right.square(square % 16, square / 16, 1));
        }
        CorridorPlan left = Checks.plan("", "A");
        Checks.digAll(left, 15, 31);
        CHECKS.due("square(15, 0, 1)", 0, left.square(15, 0, 1));
        CHECKS.due("square(15, 1, 1)", 0, left.square(15, 1, 1));
        CorridorPlan above = Checks.plan("####A");
        above.dig(4, 11);
        CHECKS.due("square(4, 11, 1)", 0, above.square(4, 11, 1));
    }

    // ---- 16, chamber

    private static void dueChamberRefused(Class<?> want, int room, int what) {
        CorridorPlan plan = Checks.plan("A.B");
        CHECKS.dueThrow(plan, "chamber(" + room + ", " + what + ")", want, () -> plan.chamber(room, what));
    }

    static void promise16_noChamberIsThere() {
        for (int room : new int[] {-1, 2, 5, 6, Checks.LEAST, Checks.MOST}) {
            dueChamberRefused(Checks.OUT_OF_BOUNDS, room, 0);
            dueChamberRefused(Checks.OUT_OF_BOUNDS, room, 7);
        }
    }

    static void promise16_aChamberGivenUpIsNotThere() {
        CorridorPlan plan = Checks.plan("A.B");
        plan.give(0);
        CHECKS.dueThrow(plan, "chamber(0, 2)", Checks.OUT_OF_BOUNDS, () -> plan.chamber(0, 2));
        CHECKS.due("chamber(1, 0)", 2, plan.chamber(1, 0));
    }

    static void promise16_whatBelow0IsRefused() {
        dueChamberRefused(Checks.ILLEGAL_ARGUMENT, 0, -1);
        dueChamberRefused(Checks.ILLEGAL_ARGUMENT, 1, -1);
        dueChamberRefused(Checks.ILLEGAL_ARGUMENT, 1, Checks.LEAST);
    }

    static void promise16_whatAbove7IsRefused() {
        dueChamberRefused(Checks.ILLEGAL_ARGUMENT, 0, 8);
        dueChamberRefused(Checks.ILLEGAL_ARGUMENT, 1, Checks.MOST);
    }

    static void promise16_noChamberIsNamedBeforeWhat() {
        dueChamberRefused(Checks.OUT_OF_BOUNDS, 2, 8);
        dueChamberRefused(Checks.OUT_OF_BOUNDS, -1, -1);
    }

    private static void dueBox(CorridorPlan plan, int room, int... want) {
        for (int what = 0; what < want.length; what++) {
            CHECKS.due("chamber(" + room + ", " + what + ")", want[what], plan.chamber(room, what));
        }
    }

    static void promise16_theLargestAndTheSmallestChamber() {
        CorridorPlan plan = new CorridorPlan();
        plan.room(0, 0, 6, 6);
        plan.room(15, 11, 1, 1);
        plan.room(10, 4, 5, 2);
        dueBox(plan, 0, 0, 0, 6, 6);
        dueBox(plan, 1, 15, 11, 1, 1);
        dueBox(plan, 2, 10, 4, 5, 2);
    }

    static void promise16_noDoors() {
        CHECKS.due("chamber(0, 4)", 0, Checks.plan("A#.").chamber(0, 4));
    }

    static void promise16_theMostDoorsAre24() {
        String inside = ".AAAAAA.";
        CorridorPlan plan = Checks.plan("........", inside, inside, inside, inside, inside, inside, "........");
        CHECKS.due("chamber(0, 4), all around but at the corners", 24, plan.chamber(0, 4));
    }

    static void promise16_doorsInACornerOfThePlan() {
        CorridorPlan plan = new CorridorPlan();
        plan.room(14, 10, 2, 2);
        Checks.digAll(plan, 9 * 16 + 13, 9 * 16 + 14, 9 * 16 + 15, 10 * 16 + 13, 11 * 16 + 13, 0, 14, 15, 11 * 16);
        CHECKS.due("chamber(0, 4)", 4, plan.chamber(0, 4));
    }

    static void promise16_doorsAtEachSideAndCornerOfThePlan() {
        for (int number : new int[] {7, 5 * 16, 5 * 16 + 15, 11 * 16 + 7, 0, 15, 11 * 16, 11 * 16 + 15}) {
            CorridorPlan plan = new CorridorPlan();
            plan.room(number % 16, number / 16, 1, 1);
            for (int square = 0; square < 192; square++) {
                if (square != number) {
                    plan.dig(square % 16, square / 16);
                }
            }
            boolean isCorner = number % 16 % 15 == 0 && number / 16 % 11 == 0;
            CHECKS.due("chamber(0, 4) on " + number, isCorner ? 2 : 3, plan.chamber(0, 4));
            CHECKS.due("count(5) with a chamber on " + number, isCorner ? 2 : 3, plan.count(5));
        }
    }

    static void promise16_aSquareIsADoorOfEachChamberBesideIt() {
        CorridorPlan plan = Checks.plan("A.B", "#C");
        for (int room = 0; room < 3; room++) {
            CHECKS.due("chamber(" + room + ", 4)", 1, plan.chamber(room, 4));
        }
        CHECKS.due("count(5)", 3, plan.count(5));
    }

    /** As many pairs as there are, each with one door of A and one of B. */
    private static void dueFacing(CorridorPlan plan, int far, int want) {
        plan.set(far);
        CHECKS.due("chamber(0, 5) with setting " + far, want, plan.chamber(0, 5));
        CHECKS.due("chamber(1, 5) with setting " + far, want, plan.chamber(1, 5));
        CHECKS.due("count(6) with setting " + far, want, plan.count(6));
    }

    static void promise16_doorsFaceOnTheSameSquare() {
        dueFacing(Checks.plan("A.B"), 0, 1);
        dueFacing(Checks.plan("A", ".", "B"), 0, 1);
        dueFacing(Checks.plan("B.A"), 0, 1);
        dueFacing(Checks.plan("B", ".", "A"), 0, 1);
    }

    static void promise16_theNextSquareIs1Farther() {
        dueFacing(Checks.plan("A..B"), 0, 0);
        dueFacing(Checks.plan("A..B"), 1, 1);
        dueFacing(Checks.plan("A", ".", ".", "B"), 0, 0);
        dueFacing(Checks.plan("A", ".", ".", "B"), 1, 1);
    }

    static void promise16_doorsFaceJustAsFarAsTheSetting() {
        for (int far = 0; far <= 9; far++) {
            dueFacing(Checks.plan("A" + ".".repeat(far + 1) + "B"), far, 1);
            dueFacing(Checks.plan("A" + ".".repeat(far + 2) + "B"), far, 0);
        }
    }

    static void promise16_onlyDugSquaresLieBetween() {
        dueFacing(Checks.plan("A.#.B"), 9, 0);
        dueFacing(Checks.plan("A.#B"), 9, 0);
        dueFacing(Checks.plan("A#.B"), 9, 0);
        dueFacing(Checks.plan("A##B"), 9, 0);
    }

    static void promise16_aThirdChamberLiesBetween() {
        CorridorPlan plan = Checks.plan("A.C.B");
        plan.set(9);
        CHECKS.due("chamber(0, 5)", 1, plan.chamber(0, 5));
        CHECKS.due("chamber(1, 5)", 1, plan.chamber(1, 5));
        CHECKS.due("chamber(2, 5)", 2, plan.chamber(2, 5));
        CHECKS.due("count(6)", 2, plan.count(6));
    }

    static void promise16_doorsTowardsSidesThatAreNotOppositeDoNotFace() {
        dueFacing(Checks.plan("A.", "#B"), 9, 0);
        dueFacing(Checks.plan("A..", "##B"), 9, 0);
        dueFacing(Checks.plan("A.", "#.", "#B"), 9, 0);
        dueFacing(Checks.plan("#A#B", "#..."), 9, 0);
    }

    static void promise16_doorsThatAreNotStraightAwayDoNotFace() {
        dueFacing(Checks.plan("A.", "#.B"), 9, 0);
        dueFacing(Checks.plan("A..", "#..B"), 9, 0);
    }

    static void promise16_doorsThatLookAwayFromOneAnotherDoNotFace() {
        dueFacing(Checks.plan(".A#B."), 9, 0);
    }

    static void promise16_doorsOfOneChamberDoNotFace() {
        CorridorPlan plan = Checks.plan("....", ".AA.", ".AA.", "....");
        plan.set(9);
        CHECKS.due("chamber(0, 5)", 0, plan.chamber(0, 5));
        CHECKS.due("count(6)", 0, plan.count(6));
    }

    static void promise16_doorsDoNotFaceAroundTheSidesOfThePlan() {
        CorridorPlan plan = Checks.plan("", "#############A..", "..B");
        plan.set(9);
        CHECKS.due("count(5)", 2, plan.count(5));
        CHECKS.due("count(6)", 0, plan.count(6));
        CorridorPlan same = Checks.plan(".B###########A..", "", "###########C");
        same.dig(11, 0);
        same.dig(11, 11);
        same.set(9);
        CHECKS.due("count(6) on the same row and column", 0, same.count(6));
    }

    static void promise16_doorsFaceAlongTheSidesOfThePlan() {
        int[][] squares = {{0, 1, 2}, {13, 14, 15}, {0, 16, 32}, {15, 31, 47}, {176, 177, 178}, {189, 190, 191},
            {144, 160, 176}, {159, 175, 191}};
        for (int[] row : squares) {
            CorridorPlan plan = new CorridorPlan();
            plan.room(row[0] % 16, row[0] / 16, 1, 1);
            plan.room(row[2] % 16, row[2] / 16, 1, 1);
            Checks.digAll(plan, row[1]);
            dueFacing(plan, 0, 1);
        }
    }

    static void promise16_eachFacingDoorIsCounted() {
        CorridorPlan plan = Checks.plan("AAA.B", "AAA..C", "AAA", "#.", "DDD");
        plan.set(1);
        CHECKS.due("chamber(0, 4)", 3, plan.chamber(0, 4));
        CHECKS.due("chamber(0, 5)", 3, plan.chamber(0, 5));
        CHECKS.due("chamber(1, 5)", 1, plan.chamber(1, 5));
        CHECKS.due("chamber(2, 5)", 1, plan.chamber(2, 5));
        CHECKS.due("chamber(3, 5)", 1, plan.chamber(3, 5));
        CHECKS.due("count(6)", 3, plan.count(6));
    }

    private static CorridorPlan sixChambers() {
        return Checks.plan("A#B#C", "", "D#E#F");
    }

    private static CorridorPlan allWalk() {
        CorridorPlan plan = sixChambers();
        for (int one = 0; one < 6; one++) {
            for (int other = one + 1; other < 6; other++) {
                plan.walk(one, other, 1);
            }
        }
        return plan;
    }

    static void promise16_nobodyWalksFromIt() {
        CHECKS.due("chamber(0, 6)", 0, Checks.plan("A.B").chamber(0, 6));
        CHECKS.due("chamber(0, 7)", 0, Checks.plan("A#B").chamber(0, 7));
    }

    static void promise16_somebodyWalksToAllOthers() {
        CorridorPlan plan = allWalk();
        for (int room = 0; room < 6; room++) {
            CHECKS.due("chamber(" + room + ", 6)", 5, plan.chamber(room, 6));
            CHECKS.due("chamber(" + room + ", 7)", 5, plan.chamber(room, 7));
        }
    }

    static void promise16_anOpenWayIsLeftOut() {
        CorridorPlan plan = Checks.plan("A.B#C");
        plan.walk(1, 0, 1);
        plan.walk(1, 2, 1);
        CHECKS.due("chamber(0, 7)", 0, plan.chamber(0, 7));
        CHECKS.due("chamber(1, 7)", 1, plan.chamber(1, 7));
        CHECKS.due("chamber(2, 7)", 1, plan.chamber(2, 7));
    }

    static void promise16_aWayThatIsNotBroadEnoughIsNotOpen() {
        CorridorPlan plan = Checks.plan("A.B");
        plan.walk(0, 1, 2);
        CHECKS.due("chamber(0, 7)", 1, plan.chamber(0, 7));
    }

    static void promise16_noWayAtAllIsNoOpenWay() {
        CHECKS.due("chamber(0, 7)", 1, Checks.noWayForCarts().chamber(0, 7));
        CHECKS.due("chamber(1, 7)", 1, Checks.noWayForCarts().chamber(1, 7));
    }

    // ---- 17, way

    private static void dueWayRefused(Class<?> want, int one, int other, int what) {
        CorridorPlan plan = Checks.plan("A#B#C");
        CHECKS.dueThrow(plan, "way(" + one + ", " + other + ", " + what + ")", want,
                () -> plan.way(one, other, what));
    }

    static void promise17_noChamberIsThere() {
        int[][] pairs = {{-1, 1}, {0, -1}, {3, 1}, {0, 3}, {6, 1}, {0, 6}, {Checks.LEAST, 0}, {0, Checks.MOST}};
        for (int[] pair : pairs) {
            dueWayRefused(Checks.OUT_OF_BOUNDS, pair[0], pair[1], 0);
            dueWayRefused(Checks.OUT_OF_BOUNDS, pair[0], pair[1], 4);
        }
    }

    static void promise17_bothAreTheSame() {
        for (int what = 0; what <= 4; what++) {
            dueWayRefused(Checks.ILLEGAL_ARGUMENT, 1, 1, what);
        }
    }

    static void promise17_whatBelow0IsRefused() {
        dueWayRefused(Checks.ILLEGAL_ARGUMENT, 0, 1, -1);
        dueWayRefused(Checks.ILLEGAL_ARGUMENT, 0, 1, Checks.LEAST);
    }

    static void promise17_whatAbove4IsRefused() {
        dueWayRefused(Checks.ILLEGAL_ARGUMENT, 0, 1, 5);
        dueWayRefused(Checks.ILLEGAL_ARGUMENT, 0, 1, Checks.MOST);
    }

    static void promise17_noChamberIsNamedBeforeTheOthers() {
        dueWayRefused(Checks.OUT_OF_BOUNDS, 3, 3, 0);
        dueWayRefused(Checks.OUT_OF_BOUNDS, 0, 3, 5);
        dueWayRefused(Checks.OUT_OF_BOUNDS, -1, 0, -1);
    }

    static void promise17_noWayForCarts() {
        CHECKS.dueWay(Checks.noWayForCarts(), 0, 1, -1, -1, -1, -1, 3);
        CHECKS.dueWay(Checks.noWayForCarts(), 1, 0, -1, -1, -1, -1, 3);
    }

    static void promise17_noWayForOne() {
        CorridorPlan plan = Checks.plan("A#C", "#B", "D", "", "", "#####E");
        CHECKS.dueWay(plan, 0, 4, -1, -1, -1, -1, 0);
        plan.walk(0, 4, 1);
        CHECKS.dueWay(plan, 4, 0, -1, -1, -1, -1, 1);
    }

    static void promise17_widthIs1IfNobodyWalks() {
        CorridorPlan plan = Checks.plan("A##B");
        CHECKS.dueWay(plan, 0, 1, 2, 2, 1, 2, 0);
        plan.walk(0, 1, 1);
        CHECKS.dueWay(plan, 0, 1, 2, 2, 1, 2, 1);
    }

    static void promise17_onePlaceAlone() {
        CHECKS.dueWay(Checks.plan("A#B"), 0, 1, 1, 1, 1, 1, 0);
        CHECKS.dueWay(Checks.plan("A", "#", "B"), 1, 0, 1, 1, 16, 16, 0);
        CHECKS.dueWay(Checks.plan("A", "#B"), 0, 1, 1, 1, 1, 1, 0);
        CorridorPlan plan = Checks.plan("A##B");
        plan.walk(0, 1, 2);
        CHECKS.dueWay(plan, 0, 1, 4, 1, 1, 1, 2);
    }

    static void promise17_anOpenWayCosts0() {
        CHECKS.dueWay(Checks.plan("A.B"), 0, 1, 0, 1, 1, 1, 0);
        CHECKS.dueWay(Checks.plan("A..B"), 0, 1, 0, 2, 1, 2, 0);
    }

    static void promise17_oneSquareOfRockCosts1() {
        CHECKS.dueWay(Checks.plan("A.#B"), 0, 1, 1, 2, 1, 2, 0);
        CHECKS.dueWay(Checks.plan("A#.B"), 0, 1, 1, 2, 1, 2, 0);
    }

    /** The first place has all its rock to dig, each next one only what the place ahead of it has not. */
    static void promise17_theCostOfTheFirstPlaceAndOfTheNextOnes() {
        CorridorPlan plan = Checks.plan("AA####BB", "AA####BB");
        plan.walk(0, 1, 2);
        CHECKS.dueWay(plan, 0, 1, 8, 3, 2, 4, 2);
        plan.dig(2, 0);
        CHECKS.dueWay(plan, 0, 1, 7, 3, 2, 4, 2);
        plan.dig(5, 1);
        CHECKS.dueWay(plan, 0, 1, 6, 3, 2, 4, 2);
        plan.dig(3, 0);
        CHECKS.dueWay(plan, 1, 0, 5, 3, 4, 2, 2);
    }

    static void promise17_aSquareIsToldTwiceIfTheWayComesBackToIt() {
        CorridorPlan plan = Checks.windingForCarts();
        CHECKS.due("way(0, 1, 0)", 69, plan.way(0, 1, 0));
        plan.carve(0, 1);
        CHECKS.due("way(0, 1, 0) behind carve()", 0, plan.way(0, 1, 0));
    }

    static void promise17_theCostComesBeforeThePlaces() {
        CHECKS.dueWay(Checks.plan("A##B", "#..", "#"), 0, 1, 2, 2, 1, 2, 0);
        CHECKS.dueWay(Checks.plan("A#B", ".#.", "..."), 0, 1, 0, 5, 16, 18, 0);
    }

    static void promise17_thePlacesComeBeforeTheirNumbers() {
        CHECKS.dueWay(Checks.plan("#....", "#.##.", "#A##B", "#...."), 0, 1, 0, 4, 3 * 16 + 1, 3 * 16 + 4, 0);
    }

    static void promise17_theLowestFirstPlaceComesFirst() {
        CHECKS.dueWay(Checks.plan("", "AA##BB", "AA##BB"), 0, 1, 2, 2, 16 + 2, 16 + 3, 0);
        CHECKS.dueWay(Checks.plan("", "AA##BB", "AA##BB"), 1, 0, 2, 2, 16 + 3, 16 + 2, 0);
    }

    /** The way goes up rather than to a side, and to a side rather than down. */
    static void promise17_ofTheNextPlacesTheLowestComesFirst() {
        CorridorPlan plan = Checks.plan("", "A", "", "####B");
        CHECKS.dueWay(plan, 0, 1, 5, 5, 17, 2 * 16 + 4, 0);
        CHECKS.due("carve(0, 1)", 5, plan.carve(0, 1));
        CHECKS.duePicture(plan, "behind carve(0, 1)", "", "A....", "####.", "####B");
        CorridorPlan back = Checks.plan("", "A", "", "####B");
        CHECKS.dueWay(back, 1, 0, 5, 5, 2 * 16 + 4, 17, 0);
        back.carve(1, 0);
        CHECKS.duePicture(back, "behind carve(1, 0)", "", "A....", "####.", "####B");
        CorridorPlan left = Checks.plan("", "####A", "", "B");
        left.carve(0, 1);
        CHECKS.duePicture(left, "behind carve(0, 1)", "", "....A", ".", "B");
        CorridorPlan leftBack = Checks.plan("", "####A", "", "B");
        leftBack.carve(1, 0);
        CHECKS.duePicture(leftBack, "behind carve(1, 0)", "", "....A", ".", "B");
    }

    static void promise17_aWalkerGoesNotFromCornerToCorner() {
        CHECKS.dueWay(Checks.plan("A.", "##.B"), 0, 1, 1, 3, 1, 16 + 2, 0);
    }

    static void promise17_aPlaceAtACornerIsNotAtTheChamber() {
        CHECKS.dueWay(Checks.plan("A#", "#.B"), 0, 1, 1, 2, 1, 16 + 1, 0);
        CorridorPlan plan = Checks.plan("A", "#..", "#..B");
        plan.walk(0, 1, 2);
        CHECKS.dueWay(plan, 0, 1, 2, 2, 1, 16 + 1, 2);
    }

    /** A is one square, and B is beside the other side of a cart's place that is dug. */
    private static void dueAtA(boolean want, int x, int y, int ofBX, int ofBY) {
        CorridorPlan plan = new CorridorPlan();
        plan.room(7, 6, 1, 1);
        plan.room(ofBX, ofBY, 1, 1);
        plan.walk(0, 1, 3);
        for (int square = 0; square < 9; square++) {
            plan.dig(x + square % 3, y + square / 3);
        }
        if (want) {
            CHECKS.dueWay(plan, 0, 1, 0, 1, 16 * y + x, 16 * y + x, 3);
            CHECKS.dueWay(plan, 1, 0, 0, 1, 16 * y + x, 16 * y + x, 3);
        } else {
            CHECKS.due("count(4) with a place only at A's corner", 1, plan.count(4));
        }
    }

    static void promise17_aCartIsAtAChamberWithAnyOfItsSquares() {
        for (int aside = 0; aside < 3; aside++) {
            dueAtA(true, 4, 4 + aside, 3, 5 + aside);
            dueAtA(true, 8, 4 + aside, 11, 5 + aside);
            dueAtA(true, 5 + aside, 3, 6 + aside, 2);
            dueAtA(true, 5 + aside, 7, 6 + aside, 10);
        }
    }

    static void promise17_aCartAtACornerIsNotAtTheChamber() {
        dueAtA(false, 4, 3, 3, 4);
        dueAtA(false, 8, 3, 11, 4);
        dueAtA(false, 4, 7, 3, 8);
        dueAtA(false, 8, 7, 11, 8);
    }

    static void promise17_noWayAroundTheSidesOfThePlan() {
        CHECKS.dueWay(Checks.plan("##############A.", ".B"), 0, 1, 13, 13, 13, 1, 0);
        CorridorPlan upAndDown = new CorridorPlan();
        upAndDown.room(3, 1, 1, 1);
        upAndDown.room(3, 10, 1, 1);
        Checks.digAll(upAndDown, 3, 11 * 16 + 3);
        CHECKS.dueWay(upAndDown, 0, 1, 8, 8, 2 * 16 + 3, 9 * 16 + 3, 0);
    }

    /** Behind the last column there is a place of the next row that is just as far from B as the place that is due. */
    static void promise17_noPlaceAroundTheSidesComesNext() {
        CorridorPlan right = new CorridorPlan();
        right.room(15, 3, 1, 1);
        right.room(7, 11, 2, 1);
        for (int y = 5; y < 11; y++) {
            Checks.digAll(right, 16 * y, 16 * y + 15);
        }
        Checks.digAll(right, 4 * 16 + 15);
        for (int x = 0; x < 16; x++) {
            if (x != 7 && x != 8) {
                right.dig(x, 11);
            }
        }
        CHECKS.dueWay(right, 0, 1, 0, 14, 4 * 16 + 15, 11 * 16 + 9, 0);
        CorridorPlan left = new CorridorPlan();
        left.room(0, 6, 1, 1);
        left.room(6, 4, 5, 2);
        CHECKS.dueWay(left, 0, 1, 6, 6, 5 * 16, 5 * 16 + 5, 0);
    }

    static void promise17_onePlaceInEachCornerOfThePlan() {
        for (int corner : new int[] {0, 15, 176, 191}) {
            int x = corner % 16;
            int y = corner / 16;
            CorridorPlan plan = new CorridorPlan();
            plan.room(x == 0 ? 1 : 14, y, 1, 1);
            plan.room(x, y == 0 ? 1 : 10, 1, 1);
            plan.dig(x, y);
            CHECKS.dueWay(plan, 0, 1, 0, 1, corner, corner, 0);
        }
    }

    /** Open ways from the row 5 up and around, or from the row 6 down and around, over two corners of the plan. */
    static void promise17_aWayAlongTheSidesOfThePlan() {
        for (int width = 1; width <= 3; width++) {
            int places = 29 - 3 * width;
            int atRight = 16 - width;
            int above = (6 - width) * 16;
            CHECKS.dueWay(Checks.ring(width, 0), 0, 1, 0, places, above, above + atRight, width);
            CHECKS.dueWay(Checks.ring(width, 0), 1, 0, 0, places, above + atRight, above, width);
            int below = 6 * 16;
            CHECKS.dueWay(Checks.ring(width, 6), 0, 1, 0, places, below, below + atRight, width);
            CHECKS.dueWay(Checks.ring(width, 6), 1, 0, 0, places, below + atRight, below, width);
        }
    }

    /** The open way of 99 places comes before ways of a few places and one square of rock. */
    static void promise17_theCostComesBeforeManyPlaces() {
        CHECKS.dueWay(Checks.toAndFro(), 0, 1, 0, 99, 1, 161, 0);
        CHECKS.dueWay(Checks.toAndFro(), 1, 0, 0, 99, 161, 1, 0);
    }

    static void promise17_theLastColumnForEachWidth() {
        for (int width = 1; width <= 3; width++) {
            CorridorPlan plan = new CorridorPlan();
            plan.room(15, 2, 1, 1);
            plan.room(15, 6, 1, 1);
            plan.walk(0, 1, width);
            int first = 3 * 16 + 16 - width;
            CHECKS.dueWay(plan, 0, 1, 3 * width, 4 - width, first, first + 16 * (3 - width), width);
        }
    }

    static void promise17_theLastRowForEachWidth() {
        for (int width = 1; width <= 3; width++) {
            CorridorPlan plan = new CorridorPlan();
            plan.room(2, 11, 1, 1);
            plan.room(6, 11, 1, 1);
            plan.walk(0, 1, width);
            int first = (12 - width) * 16 + 3;
            CHECKS.dueWay(plan, 0, 1, 3 * width, 4 - width, first, first + 3 - width, width);
        }
    }

    static void promise17_anotherWidthIsNotOfThisWay() {
        CorridorPlan plan = Checks.plan("A##B##C");
        plan.walk(1, 2, 2);
        CHECKS.dueWay(plan, 0, 1, 2, 2, 1, 2, 0);
        CHECKS.dueWay(plan, 1, 2, 4, 1, 4, 4, 2);
    }

    // ---- 18, count

    private static void dueCountRefused(int what) {
        CorridorPlan plan = Checks.plan("A.B");
        CHECKS.dueThrow(plan, "count(" + what + ")", Checks.ILLEGAL_ARGUMENT, () -> plan.count(what));
    }

    static void promise18_whatBelow0IsRefused() {
        dueCountRefused(-1);
        dueCountRefused(Checks.LEAST);
    }

    static void promise18_whatAbove8IsRefused() {
        dueCountRefused(9);
        dueCountRefused(Checks.MOST);
    }

    static void promise18_noneOfAll() {
        CHECKS.dueCounts(new CorridorPlan(), "of a new object", 0, 0, 192, 0, 0, 0, 0, 0);
        CHECKS.due("count(8)", 0, new CorridorPlan().count(8));
    }

    static void promise18_sixChambers() {
        CHECKS.dueCounts(sixChambers(), "of six chambers", 6, 0, 186, 0, 0, 0, 0, 0);
    }

    static void promise18_allSquaresAreDug() {
        CorridorPlan plan = new CorridorPlan();
        for (int square = 0; square < 192; square++) {
            plan.dig(square % 16, square / 16);
        }
        CHECKS.dueCounts(plan, "of a plan that is dug", 0, 192, 0, 0, 0, 0, 0, 0);
    }

    static void promise18_squaresOfChambersAreNeitherDugNorRock() {
        CorridorPlan plan = new CorridorPlan();
        plan.room(0, 0, 6, 6);
        plan.room(10, 6, 6, 6);
        plan.dig(0, 11);
        CHECKS.dueCounts(plan, "of two large chambers", 2, 1, 119, 0, 0, 0, 0, 0);
    }

    static void promise18_somebodyWalksBetweenAll() {
        CorridorPlan plan = allWalk();
        CHECKS.due("count(3)", 15, plan.count(3));
        CHECKS.due("count(4)", 15, plan.count(4));
        plan.carveAll();
        CHECKS.due("count(4) behind carveAll()", 0, plan.count(4));
        CHECKS.due("count(3) behind carveAll()", 15, plan.count(3));
    }

    static void promise18_twoWithoutAnyWayHaveNoOpenOne() {
        CHECKS.due("count(4)", 1, Checks.noWayForCarts().count(4));
    }

    static void promise18_aSquareIsADoorOnceForEachSide() {
        CHECKS.due("count(5)", 4, Checks.plan("#A", "B.C", "#D").count(5));
        CHECKS.due("count(5)", 2, Checks.plan("A..B").count(5));
        CHECKS.due("count(5)", 0, Checks.plan(".#", "#A").count(5));
    }

    static void promise18_aPairOfDoorsIsCountedOnce() {
        CHECKS.due("count(6)", 1, Checks.plan("A.B").count(6));
        CHECKS.due("count(6)", 2, Checks.plan("#A", "B.C", "#D").count(6));
        CHECKS.due("count(6)", 3, Checks.plan("AAA", "...", "BBB").count(6));
    }

    static void promise18_openWaysCostNothing() {
        CorridorPlan plan = Checks.plan("A.B##C");
        plan.walk(0, 1, 1);
        CHECKS.due("count(7)", 0, plan.count(7));
        plan.walk(1, 2, 1);
        CHECKS.due("count(7)", 2, plan.count(7));
    }

    static void promise18_twoWithoutAnyWayAreLeftOutOfTheCosts() {
        CorridorPlan plan = Checks.noWayForCarts();
        CHECKS.due("count(7)", 0, plan.count(7));
        plan.room(6, 0, 1, 1);
        plan.walk(0, 2, 1);
        CHECKS.due("count(7)", 4, plan.count(7));
    }

    static void promise18_twoBetweenWhichNobodyWalksAreLeftOutOfTheCosts() {
        CHECKS.due("count(7)", 0, Checks.plan("A##B").count(7));
    }

    static void promise18_sharedRockIsInEachOfTheCosts() {
        CorridorPlan plan = Checks.plan("A##B", "", "###C");
        plan.walk(0, 1, 1);
        plan.walk(0, 2, 1);
        CHECKS.due("way(0, 1, 0)", 2, plan.way(0, 1, 0));
        CHECKS.due("way(0, 2, 0)", 4, plan.way(0, 2, 0));
        CHECKS.due("count(7)", 6, plan.count(7));
    }

    static void promise18_theSavedStatesAre6AtMost() {
        CorridorPlan plan = new CorridorPlan();
        for (int call = 1; call <= 8; call++) {
            plan.set(call);
            CHECKS.due("count(8) behind " + call + " calls", Math.min(6, call), plan.count(8));
        }
    }
}
