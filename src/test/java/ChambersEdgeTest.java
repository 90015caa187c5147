/**
 * Promises 1 to 4 (a new object, room, give, walk), and what the terms say of the plan: a test of its own for each
 * boundary case that the document names.
 */
public final class ChambersEdgeTest {
    private static final Checks CHECKS = new Checks("ChambersEdgeTest");

    public static void main(String[] arguments) {
        CHECKS.runEach(ChambersEdgeTest.class);
        CHECKS.end();
    }

    // ---- 1, a new object

    static void promise1_allSquaresAreRock() {
        CorridorPlan plan = new CorridorPlan();
        for (int square = 0; square < 192; square++) {
            CHECKS.due("square() of " + square, -2, plan.square(square % 16, square / 16, 0));
        }
        CHECKS.due("count(1)", 0, plan.count(1));
        CHECKS.due("count(2)", 192, plan.count(2));
    }

    static void promise1_thereIsNoChamber() {
        CorridorPlan plan = new CorridorPlan();
        CHECKS.due("count(0)", 0, plan.count(0));
        for (int number = 0; number < 6; number++) {
            int room = number;
            CHECKS.dueThrow(plan, "chamber(" + room + ", 0)", Checks.OUT_OF_BOUNDS, () -> plan.chamber(room, 0));
        }
        CHECKS.dueThrow(plan, "give(0)", Checks.OUT_OF_BOUNDS, () -> plan.give(0));
        CHECKS.dueThrow(plan, "walk(0, 1, 1)", Checks.OUT_OF_BOUNDS, () -> plan.walk(0, 1, 1));
        CHECKS.dueThrow(plan, "carve(0, 1)", Checks.OUT_OF_BOUNDS, () -> plan.carve(0, 1));
        CHECKS.dueThrow(plan, "way(0, 1, 0)", Checks.OUT_OF_BOUNDS, () -> plan.way(0, 1, 0));
        CHECKS.dueThrow(plan, "ifGiven(0)", Checks.OUT_OF_BOUNDS, () -> plan.ifGiven(0));
    }

    static void promise1_nobodyWalks() {
        CorridorPlan plan = new CorridorPlan();
        CHECKS.due("count(3)", 0, plan.count(3));
        plan.room(0, 0, 1, 1);
        plan.room(2, 0, 1, 1);
        CHECKS.due("count(3) with two chambers", 0, plan.count(3));
        CHECKS.due("way(0, 1, 4)", 0, plan.way(0, 1, 4));
    }

    static void promise1_doorsFaceTwoSquaresFar() {
        CorridorPlan plan = Checks.plan("A...B...........", "################", "C....D##########");
        CHECKS.due("count(6), one pair two squares and one three squares far", 1, plan.count(6));
        CHECKS.due("set(0)", 2, new CorridorPlan().set(0));
    }

    static void promise1_theBufferIsEmpty() {
        CorridorPlan plan = new CorridorPlan();
        CHECKS.due("firstError()", 0, plan.firstError());
        CHECKS.dueThrow(plan, "run()", Checks.ILLEGAL_ARGUMENT, plan::run);
        CHECKS.due("clearBuffer()", 0, plan.clearBuffer());
        CHECKS.due("append(65)", 1, plan.append(65));
    }

    static void promise1_noStateIsSaved() {
        CorridorPlan plan = new CorridorPlan();
        CHECKS.due("count(8)", 0, plan.count(8));
        CHECKS.dueThrow(plan, "undo()", Checks.ILLEGAL_STATE, plan::undo);
    }

    static void promise1_knowsNothingOfAnotherObject() {
        CorridorPlan used = Checks.plan("A.B");
        used.walk(0, 1, 3);
        used.set(9);
        Checks.type(used, "AB:!");
        CorridorPlan plan = new CorridorPlan();
        CHECKS.duePicture(plan, "beside a used one");
        CHECKS.due("count(8)", 0, plan.count(8));
        CHECKS.due("clearBuffer()", 0, plan.clearBuffer());
        CHECKS.due("set(0)", 2, plan.set(0));
        CHECKS.due("clearBuffer() of the used one", 4, used.clearBuffer());
        CHECKS.due("set(0) of the used one", 9, used.set(0));
    }

    static void promise1_answersUpToThe512thCall() {
        CorridorPlan plan = new CorridorPlan();
        for (int call = 1; call <= 510; call++) {
            int square = (call - 1) % 192;
            CHECKS.due("call " + call + ", dig()", call > 192 && call <= 384 ? 0 : 1, plan.dig(square % 16, square / 16));
        }
        CHECKS.due("call 511, undo()", 5, plan.undo());
        CHECKS.due("call 512, count(1)", 125, plan.count(1));
    }

    static void promise1_noneIsMinus1() {
        CHECKS.due("NONE", -1, CorridorPlan.NONE);
    }

    // ---- 2, room

    private static void dueRoomRefused(CorridorPlan plan, Class<?> want, int x, int y, int columns, int rows) {
        CHECKS.dueThrow(plan, "room(" + x + ", " + y + ", " + columns + ", " + rows + ")", want,
                () -> plan.room(x, y, columns, rows));
    }

    private static void dueRoomOutOfRange(int x, int y, int columns, int rows) {
        dueRoomRefused(new CorridorPlan(), Checks.ILLEGAL_ARGUMENT, x, y, columns, rows);
    }

    private static void dueRoomAdded(int x, int y, int columns, int rows) {
        CorridorPlan plan = new CorridorPlan();
        String call = "room(" + x + ", " + y + ", " + columns + ", " + rows + ")";
        CHECKS.due(call, 0, plan.room(x, y, columns, rows));
        for (int square = 0; square < 192; square++) {
            int i = square % 16;
            int j = square / 16;
            boolean within = i >= x && i < x + columns && j >= y && j < y + rows;
            CHECKS.due("square(" + i + ", " + j + ", 0) behind " + call, within ? 0 : -2, plan.square(i, j, 0));
        }
    }

    static void promise2_columns0AreTooFew() {
        dueRoomOutOfRange(3, 3, 0, 1);
    }

    static void promise2_columnsBelow0AreTooFew() {
        dueRoomOutOfRange(3, 3, -1, 1);
        dueRoomOutOfRange(3, 3, Checks.LEAST, 1);
    }

    static void promise2_columns1AreEnough() {
        dueRoomAdded(3, 3, 1, 6);
    }

    static void promise2_columns6AreNotTooMany() {
        dueRoomAdded(3, 3, 6, 1);
    }

    static void promise2_columns7AreTooMany() {
        dueRoomOutOfRange(3, 3, 7, 1);
        dueRoomOutOfRange(3, 3, Checks.MOST, 1);
    }

    static void promise2_rows0AreTooFew() {
        dueRoomOutOfRange(3, 3, 1, 0);
    }

    static void promise2_rowsBelow0AreTooFew() {
        dueRoomOutOfRange(3, 3, 1, -1);
        dueRoomOutOfRange(3, 3, 1, Checks.LEAST);
    }

    static void promise2_rows1AreEnough() {
        dueRoomAdded(3, 3, 2, 1);
    }

    static void promise2_rows6AreNotTooMany() {
        dueRoomAdded(3, 3, 2, 6);
    }

    static void promise2_rows7AreTooMany() {
        dueRoomOutOfRange(3, 3, 1, 7);
        dueRoomOutOfRange(3, 3, 1, Checks.MOST);
    }

    static void promise2_mostColumnsAndRowsAtOnce() {
        dueRoomAdded(10, 6, 6, 6);
    }

    static void promise2_xMinus1IsNotWithinThePlan() {
        dueRoomOutOfRange(-1, 3, 1, 1);
        dueRoomOutOfRange(-1, 3, 2, 1);
        dueRoomOutOfRange(Checks.LEAST, 3, 6, 1);
    }

    static void promise2_yMinus1IsNotWithinThePlan() {
        dueRoomOutOfRange(3, -1, 1, 1);
        dueRoomOutOfRange(3, -1, 1, 2);
        dueRoomOutOfRange(3, Checks.LEAST, 1, 6);
    }

    static void promise2_theFirstSquareIsWithinThePlan() {
        dueRoomAdded(0, 0, 1, 1);
    }

    static void promise2_theLastSquareIsWithinThePlan() {
        dueRoomAdded(15, 11, 1, 1);
    }

    static void promise2_theLastColumnIsWithinThePlan() {
        dueRoomAdded(10, 3, 6, 2);
        dueRoomAdded(15, 3, 1, 2);
    }

    static void promise2_theLastRowIsWithinThePlan() {
        dueRoomAdded(3, 6, 2, 6);
        dueRoomAdded(3, 11, 2, 1);
    }

    static void promise2_aColumnBehindTheLastIsNotWithinThePlan() {
        dueRoomOutOfRange(16, 3, 1, 1);
        dueRoomOutOfRange(15, 3, 2, 1);
        dueRoomOutOfRange(11, 3, 6, 1);
    }

    static void promise2_aRowBehindTheLastIsNotWithinThePlan() {
        dueRoomOutOfRange(3, 12, 1, 1);
        dueRoomOutOfRange(3, 11, 1, 2);
        dueRoomOutOfRange(3, 7, 1, 6);
    }

    static void promise2_anEndThatWrapsAroundIsNotWithinThePlan() {
        dueRoomOutOfRange(Checks.MOST, 3, 6, 1);
        dueRoomOutOfRange(3, Checks.MOST, 1, 6);
        dueRoomOutOfRange(Checks.MOST, Checks.MOST, 6, 6);
    }

    private static CorridorPlan sixChambers() {
        return Checks.plan("A#B#C", "", "D#E#F");
    }

    static void promise2_the6thChamberIsAdded() {
        CorridorPlan plan = Checks.plan("A#B#C", "", "D#E");
        CHECKS.due("room(4, 2, 1, 1)", 5, plan.room(4, 2, 1, 1));
        CHECKS.due("count(0)", 6, plan.count(0));
    }

    static void promise2_the7thChamberIsRefused() {
        dueRoomRefused(sixChambers(), Checks.ILLEGAL_STATE, 9, 9, 1, 1);
    }

    static void promise2_behindGiveThereIsSpaceForA6thAgain() {
        CorridorPlan plan = sixChambers();
        plan.give(5);
        CHECKS.due("room(9, 9, 1, 1)", 5, plan.room(9, 9, 1, 1));
        dueRoomRefused(plan, Checks.ILLEGAL_STATE, 11, 9, 1, 1);
    }

    static void promise2_theLowestFreeNumberIsTaken() {
        CorridorPlan plan = sixChambers();
        plan.give(4);
        plan.give(0);
        plan.give(2);
        CHECKS.due("room(9, 9, 1, 1)", 0, plan.room(9, 9, 1, 1));
        CHECKS.due("room(11, 9, 1, 1)", 2, plan.room(11, 9, 1, 1));
        CHECKS.due("room(13, 9, 1, 1)", 4, plan.room(13, 9, 1, 1));
        CHECKS.due("square(13, 9, 0)", 4, plan.square(13, 9, 0));
    }

    static void promise2_eachOfItsSquaresMustBeRock() {
        for (int square = 0; square < 6; square++) {
            CorridorPlan plan = new CorridorPlan();
            plan.dig(4 + square % 3, 5 + square / 3);
            dueRoomRefused(plan, Checks.ILLEGAL_STATE, 4, 5, 3, 2);
        }
    }

    static void promise2_noneOfItsSquaresMayBelongToAChamber() {
        CorridorPlan plan = Checks.plan("", "", "", "####AAA", "####AAA", "####AAA");
        dueRoomRefused(plan, Checks.ILLEGAL_STATE, 5, 4, 1, 1);
        dueRoomRefused(plan, Checks.ILLEGAL_STATE, 4, 3, 3, 3);
        dueRoomRefused(plan, Checks.ILLEGAL_STATE, 6, 5, 2, 2);
        dueRoomRefused(plan, Checks.ILLEGAL_STATE, 3, 2, 5, 5);
    }

    static void promise2_aFilledSquareIsRock() {
        CorridorPlan plan = new CorridorPlan();
        plan.dig(4, 5);
        plan.dig(4, 5);
        CHECKS.due("room(4, 5, 1, 1)", 0, plan.room(4, 5, 1, 1));
    }

    static void promise2_aSquareOfAChamberGivenUpIsNotRock() {
        CorridorPlan plan = Checks.plan("AA");
        plan.give(0);
        dueRoomRefused(plan, Checks.ILLEGAL_STATE, 1, 0, 1, 1);
    }

    /** A is beside it with one square only, at the end of each side. */
    static void promise2_noChamberMayBeBesideIt() {
        CorridorPlan plan = Checks.plan("", "", "", "", "", "######A");
        dueRoomRefused(plan, Checks.ILLEGAL_STATE, 7, 5, 2, 3);
        dueRoomRefused(plan, Checks.ILLEGAL_STATE, 7, 3, 2, 3);
        dueRoomRefused(plan, Checks.ILLEGAL_STATE, 4, 5, 2, 3);
        dueRoomRefused(plan, Checks.ILLEGAL_STATE, 4, 3, 2, 3);
        dueRoomRefused(plan, Checks.ILLEGAL_STATE, 6, 6, 3, 2);
        dueRoomRefused(plan, Checks.ILLEGAL_STATE, 4, 6, 3, 2);
        dueRoomRefused(plan, Checks.ILLEGAL_STATE, 6, 3, 3, 2);
        dueRoomRefused(plan, Checks.ILLEGAL_STATE, 4, 3, 3, 2);
    }

    static void promise2_aChamberMayBeCornerAtCorner() {
        CorridorPlan plan = Checks.plan("", "", "", "", "", "######AA", "######AA");
        CHECKS.due("room(4, 3, 2, 2)", 1, plan.room(4, 3, 2, 2));
        CHECKS.due("room(8, 3, 2, 2)", 2, plan.room(8, 3, 2, 2));
        CHECKS.due("room(4, 7, 2, 2)", 3, plan.room(4, 7, 2, 2));
        CHECKS.due("room(8, 7, 2, 2)", 4, plan.room(8, 7, 2, 2));
    }

    static void promise2_aChamberMayBeOneSquareAway() {
        CorridorPlan plan = Checks.plan("", "", "", "", "", "######AA", "######AA");
        CHECKS.due("room(4, 5, 1, 2)", 1, plan.room(4, 5, 1, 2));
        CHECKS.due("room(9, 5, 1, 2)", 2, plan.room(9, 5, 1, 2));
        CHECKS.due("room(6, 3, 2, 1)", 3, plan.room(6, 3, 2, 1));
        CHECKS.due("room(6, 8, 2, 1)", 4, plan.room(6, 8, 2, 1));
    }

    static void promise2_noChamberIsBesideItAroundTheSides() {
        CorridorPlan plan = Checks.plan("", "", "", "", "###############A");
        CHECKS.due("room(0, 5, 1, 1)", 1, plan.room(0, 5, 1, 1));
        CHECKS.due("room(0, 3, 1, 1)", 2, plan.room(0, 3, 1, 1));
        CHECKS.due("room(7, 0, 1, 1)", 3, plan.room(7, 0, 1, 1));
        CHECKS.due("room(7, 11, 1, 1)", 4, plan.room(7, 11, 1, 1));
    }

    static void promise2_dugSquaresMayBeBesideIt() {
        CorridorPlan plan = Checks.plan("", "####..", "###.##.", "###.##.", "####..");
        CHECKS.due("room(4, 2, 2, 2)", 0, plan.room(4, 2, 2, 2));
    }

    static void promise2_aChamberOutOfRangeIsNamedBeforeA7th() {
        CorridorPlan plan = sixChambers();
        dueRoomRefused(plan, Checks.ILLEGAL_ARGUMENT, 9, 9, 0, 1);
        dueRoomRefused(plan, Checks.ILLEGAL_ARGUMENT, 9, 9, 1, 7);
        dueRoomRefused(plan, Checks.ILLEGAL_ARGUMENT, 16, 9, 1, 1);
        dueRoomRefused(plan, Checks.ILLEGAL_ARGUMENT, 9, 11, 1, 2);
    }

    static void promise2_aChamberOutOfRangeIsNamedBeforeItsSquares() {
        CorridorPlan plan = Checks.plan("", "", "", "", "", "", "", "", "", "", "###############A", "###############.");
        dueRoomRefused(plan, Checks.ILLEGAL_ARGUMENT, 15, 10, 0, 1);
        dueRoomRefused(plan, Checks.ILLEGAL_ARGUMENT, 15, 10, 2, 1);
        dueRoomRefused(plan, Checks.ILLEGAL_ARGUMENT, 15, 11, 1, 2);
    }

    static void promise2_aRefusedCallLeavesTheSavedStates() {
        CorridorPlan outside = Checks.plan("A");
        CHECKS.dueSavedStatesStay(outside, "room(16, 0, 1, 1)", Checks.ILLEGAL_ARGUMENT, () -> outside.room(16, 0, 1, 1));
        CorridorPlan beside = Checks.plan("A");
        CHECKS.dueSavedStatesStay(beside, "room(1, 0, 1, 1)", Checks.ILLEGAL_STATE, () -> beside.room(1, 0, 1, 1));
        CorridorPlan full = sixChambers();
        CHECKS.dueSavedStatesStay(full, "room(9, 9, 1, 1)", Checks.ILLEGAL_STATE, () -> full.room(9, 9, 1, 1));
    }

    static void promise2_isUndoable() {
        CorridorPlan plan = new CorridorPlan();
        plan.room(4, 5, 2, 2);
        CHECKS.due("count(8)", 1, plan.count(8));
        CHECKS.due("undo()", 0, plan.undo());
        CHECKS.duePicture(plan, "behind undo()");
        CHECKS.dueThrow(plan, "chamber(0, 0)", Checks.OUT_OF_BOUNDS, () -> plan.chamber(0, 0));
        CHECKS.due("room(4, 6, 2, 2), the number is free again", 0, plan.room(4, 6, 2, 2));
    }

    // ---- 3, give

    private static void dueGiveRefused(CorridorPlan plan, int room) {
        CHECKS.dueThrow(plan, "give(" + room + ")", Checks.OUT_OF_BOUNDS, () -> plan.give(room));
    }

    static void promise3_theSmallestChamberIsOneSquare() {
        CorridorPlan plan = Checks.plan("A");
        CHECKS.due("give(0)", 1, plan.give(0));
        CHECKS.duePicture(plan, "behind give(0)", ".");
    }

    static void promise3_theLargestChamberIs36Squares() {
        CorridorPlan plan = new CorridorPlan();
        plan.room(10, 6, 6, 6);
        CHECKS.due("give(0)", 36, plan.give(0));
        String row = "##########......";
        CHECKS.duePicture(plan, "behind give(0)", "", "", "", "", "", "", row, row, row, row, row, row);
    }

    static void promise3_squaresThatWereDugAreNotCounted() {
        CorridorPlan plan = Checks.plan(".....", ".AAA.", ".AAA.", ".....");
        CHECKS.due("give(0)", 6, plan.give(0));
        CHECKS.duePicture(plan, "behind give(0)", ".....", ".....", ".....", ".....");
    }

    static void promise3_theLastChamberCanBeGivenUp() {
        CorridorPlan plan = Checks.plan("A");
        plan.give(0);
        CHECKS.due("count(0)", 0, plan.count(0));
        dueGiveRefused(plan, 0);
    }

    static void promise3_theOthersKeepTheirNumbers() {
        CorridorPlan plan = Checks.plan("A#B#C");
        plan.walk(0, 2, 2);
        plan.give(1);
        CHECKS.duePicture(plan, "behind give(1)", "A#.#C");
        CHECKS.due("chamber(2, 0)", 4, plan.chamber(2, 0));
        CHECKS.due("way(0, 2, 4)", 2, plan.way(0, 2, 4));
        dueGiveRefused(plan, 1);
    }

    static void promise3_nobodyWalksToItThen() {
        CorridorPlan plan = Checks.plan("A#B#C");
        plan.walk(0, 1, 1);
        plan.walk(2, 1, 2);
        plan.walk(2, 0, 3);
        plan.give(1);
        CHECKS.due("count(3)", 1, plan.count(3));
        CHECKS.due("chamber(0, 6)", 1, plan.chamber(0, 6));
        CHECKS.due("chamber(2, 6)", 1, plan.chamber(2, 6));
    }

    static void promise3_whoWalksBetweenTheOthersStays() {
        for (int given = 0; given < 6; given++) {
            CorridorPlan plan = sixChambers();
            for (int one = 0; one < 6; one++) {
                for (int other = one + 1; other < 6; other++) {
                    plan.walk(one, other, 1 + (one * 5 + other) % 3);
                }
            }
            plan.give(given);
            for (int one = 0; one < 6; one++) {
                for (int other = one + 1; other < 6; other++) {
                    if (one != given && other != given) {
                        String when = "way(" + one + ", " + other + ", 4) behind give(" + given + ")";
                        CHECKS.due(when, 1 + (one * 5 + other) % 3, plan.way(one, other, 4));
                        CHECKS.due(when + ", the other way round", plan.way(one, other, 4), plan.way(other, one, 4));
                    }
                }
            }
            CHECKS.due("count(3) behind give(" + given + ")", 10, plan.count(3));
        }
    }

    static void promise3_nobodyWalksToANewOneOfItsNumber() {
        CorridorPlan plan = Checks.plan("A#B#C");
        plan.walk(0, 1, 1);
        plan.walk(2, 1, 2);
        plan.give(1);
        CHECKS.due("room(9, 9, 1, 1)", 1, plan.room(9, 9, 1, 1));
        CHECKS.due("way(0, 1, 4)", 0, plan.way(0, 1, 4));
        CHECKS.due("way(1, 2, 4)", 0, plan.way(1, 2, 4));
        CHECKS.due("walk(1, 0, 3)", 0, plan.walk(1, 0, 3));
    }

    static void promise3_noChamberOutOfRange() {
        CorridorPlan plan = sixChambers();
        dueGiveRefused(plan, -1);
        dueGiveRefused(plan, 6);
        dueGiveRefused(plan, Checks.LEAST);
        dueGiveRefused(plan, Checks.MOST);
    }

    static void promise3_noChamberOfAFreeNumber() {
        dueGiveRefused(Checks.plan("A#B"), 2);
        dueGiveRefused(Checks.plan("A#B"), 5);
    }

    static void promise3_aRefusedCallLeavesTheSavedStates() {
        CorridorPlan plan = Checks.plan("A#B");
        CHECKS.dueSavedStatesStay(plan, "give(2)", Checks.OUT_OF_BOUNDS, () -> plan.give(2));
    }

    static void promise3_isUndoable() {
        CorridorPlan plan = Checks.plan("AA#B");
        plan.walk(0, 1, 3);
        plan.give(0);
        CHECKS.due("undo()", 3, plan.undo());
        CHECKS.duePicture(plan, "behind undo()", "AA#B");
        CHECKS.due("chamber(0, 2)", 2, plan.chamber(0, 2));
        CHECKS.due("way(0, 1, 4)", 3, plan.way(0, 1, 4));
    }

    // ---- 4, walk

    private static void dueWalkRefused(Class<?> want, int one, int other, int width) {
        CorridorPlan plan = Checks.plan("A#B#C");
        plan.walk(0, 1, 2);
        CHECKS.dueThrow(plan, "walk(" + one + ", " + other + ", " + width + ")", want,
                () -> plan.walk(one, other, width));
        CHECKS.due("way(0, 1, 4)", 2, plan.way(0, 1, 4));
    }

    static void promise4_widthBelow0IsRefused() {
        dueWalkRefused(Checks.ILLEGAL_ARGUMENT, 0, 1, -1);
        dueWalkRefused(Checks.ILLEGAL_ARGUMENT, 0, 1, Checks.LEAST);
    }

    static void promise4_widthAbove3IsRefused() {
        dueWalkRefused(Checks.ILLEGAL_ARGUMENT, 0, 1, 4);
        dueWalkRefused(Checks.ILLEGAL_ARGUMENT, 0, 1, Checks.MOST);
    }

    static void promise4_eachWidthIsTold() {
        CorridorPlan plan = Checks.plan("A#B");
        int before = 0;
        for (int width : new int[] {3, 0, 1, 2, 0}) {
            CHECKS.due("walk(0, 1, " + width + ")", before, plan.walk(0, 1, width));
            CHECKS.due("way(0, 1, 4)", width, plan.way(0, 1, 4));
            CHECKS.due("count(3)", width > 0 ? 1 : 0, plan.count(3));
            before = width;
        }
    }

    static void promise4_nobodyWalksAtFirst() {
        CHECKS.due("walk(0, 1, 1)", 0, Checks.plan("A#B").walk(0, 1, 1));
        CHECKS.due("walk(1, 0, 0)", 0, Checks.plan("A#B").walk(1, 0, 0));
    }

    static void promise4_itIsTheSameTheOtherWayRound() {
        CorridorPlan plan = Checks.plan("A#B");
        plan.walk(1, 0, 3);
        CHECKS.due("way(0, 1, 4)", 3, plan.way(0, 1, 4));
        CHECKS.due("way(1, 0, 4)", 3, plan.way(1, 0, 4));
        CHECKS.due("walk(0, 1, 0)", 3, plan.walk(0, 1, 0));
        CHECKS.due("way(1, 0, 4)", 0, plan.way(1, 0, 4));
        CHECKS.due("count(3)", 0, plan.count(3));
    }

    static void promise4_itIsToldForEachTwoChambers() {
        CorridorPlan plan = sixChambers();
        for (int one = 0; one < 6; one++) {
            for (int other = one + 1; other < 6; other++) {
                plan.walk(one, other, 1 + (one * 5 + other) % 3);
            }
        }
        for (int one = 0; one < 6; one++) {
            for (int other = one + 1; other < 6; other++) {
                CHECKS.due("way(" + other + ", " + one + ", 4)", 1 + (one * 5 + other) % 3, plan.way(other, one, 4));
            }
        }
        CHECKS.due("count(3)", 15, plan.count(3));
    }

    static void promise4_noChamberIsThere() {
        dueWalkRefused(Checks.OUT_OF_BOUNDS, -1, 1, 1);
        dueWalkRefused(Checks.OUT_OF_BOUNDS, 0, -1, 1);
        dueWalkRefused(Checks.OUT_OF_BOUNDS, 3, 1, 1);
        dueWalkRefused(Checks.OUT_OF_BOUNDS, 0, 3, 1);
        dueWalkRefused(Checks.OUT_OF_BOUNDS, 6, 1, 1);
        dueWalkRefused(Checks.OUT_OF_BOUNDS, 0, 6, 1);
        dueWalkRefused(Checks.OUT_OF_BOUNDS, Checks.LEAST, Checks.MOST, 1);
    }

    static void promise4_bothAreTheSame() {
        dueWalkRefused(Checks.ILLEGAL_ARGUMENT, 0, 0, 1);
        dueWalkRefused(Checks.ILLEGAL_ARGUMENT, 2, 2, 0);
    }

    static void promise4_noChamberIsNamedBeforeBothTheSame() {
        dueWalkRefused(Checks.OUT_OF_BOUNDS, 3, 3, 1);
        dueWalkRefused(Checks.OUT_OF_BOUNDS, -1, -1, 1);
    }

    static void promise4_noChamberIsNamedBeforeTheWidth() {
        dueWalkRefused(Checks.OUT_OF_BOUNDS, 0, 3, 4);
        dueWalkRefused(Checks.OUT_OF_BOUNDS, 6, 0, -1);
    }

    static void promise4_aRefusedCallLeavesTheSavedStates() {
        CorridorPlan missing = Checks.plan("A#B");
        CHECKS.dueSavedStatesStay(missing, "walk(0, 2, 1)", Checks.OUT_OF_BOUNDS, () -> missing.walk(0, 2, 1));
        CorridorPlan same = Checks.plan("A#B");
        CHECKS.dueSavedStatesStay(same, "walk(1, 1, 1)", Checks.ILLEGAL_ARGUMENT, () -> same.walk(1, 1, 1));
        CorridorPlan broad = Checks.plan("A#B");
        CHECKS.dueSavedStatesStay(broad, "walk(0, 1, 4)", Checks.ILLEGAL_ARGUMENT, () -> broad.walk(0, 1, 4));
    }

    static void promise4_isUndoableAlsoIfItChangesNothing() {
        CorridorPlan plan = Checks.plan("A#B");
        plan.walk(0, 1, 2);
        plan.walk(0, 1, 2);
        CHECKS.due("count(8)", 4, plan.count(8));
        CHECKS.due("undo()", 3, plan.undo());
        CHECKS.due("way(0, 1, 4)", 2, plan.way(0, 1, 4));
        CHECKS.due("undo()", 2, plan.undo());
        CHECKS.due("way(0, 1, 4)", 0, plan.way(0, 1, 4));
    }
}
