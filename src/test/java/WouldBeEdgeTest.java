import java.util.ArrayList;
import java.util.List;

/**
 * Promises 19 to 23 (ifDug, ifGiven, allCost, openShare, digest): a test of its own for each boundary case that the
 * document names.
 */
public final class WouldBeEdgeTest {
    private static final Checks CHECKS = new Checks("WouldBeEdgeTest");

    public static void main(String[] arguments) {
        CHECKS.runEach(WouldBeEdgeTest.class);
        CHECKS.end();
    }

    // ---- 19, ifDug

    private static void dueIfDugRefused(int x, int y, int what) {
        CorridorPlan plan = Checks.plan("A.B");
        CHECKS.dueThrow(plan, "ifDug(" + x + ", " + y + ", " + what + ")", Checks.ILLEGAL_ARGUMENT,
                () -> plan.ifDug(x, y, what));
    }

    static void promise19_xBelow0IsRefused() {
        dueIfDugRefused(-1, 0, 0);
        dueIfDugRefused(-1, 5, 1);
        dueIfDugRefused(Checks.LEAST, 5, 2);
    }

    static void promise19_x16IsRefused() {
        dueIfDugRefused(16, 0, 0);
        dueIfDugRefused(16, 11, 1);
        dueIfDugRefused(Checks.MOST, 5, 2);
    }

    static void promise19_yBelow0IsRefused() {
        dueIfDugRefused(0, -1, 0);
        dueIfDugRefused(15, -1, 1);
        dueIfDugRefused(5, Checks.LEAST, 2);
    }

    static void promise19_y12IsRefused() {
        dueIfDugRefused(0, 12, 0);
        dueIfDugRefused(15, 12, 1);
        dueIfDugRefused(5, Checks.MOST, 2);
    }

    static void promise19_aNumberThatWrapsAroundIsRefused() {
        dueIfDugRefused(0, 1 << 28, 0);
    }

    static void promise19_whatBelow0IsRefused() {
        dueIfDugRefused(1, 0, -1);
        dueIfDugRefused(1, 0, Checks.LEAST);
    }

    static void promise19_whatAbove2IsRefused() {
        dueIfDugRefused(1, 0, 3);
        dueIfDugRefused(1, 0, Checks.MOST);
    }

    static void promise19_whatOutOfRangeIsRefusedAlsoInAChamber() {
        dueIfDugRefused(0, 0, 3);
        dueIfDugRefused(0, 0, -1);
    }

    static void promise19_noneInAChamber() {
        CorridorPlan plan = Checks.plan("AA#B", "AA");
        for (int square : new int[] {0, 1, 16, 17, 3}) {
            for (int what = 0; what <= 2; what++) {
                CHECKS.due("ifDug() of " + square + " with " + what, -1, plan.ifDug(square % 16, square / 16, what));
            }
        }
    }

    static void promise19_eachCornerOfThePlanIsASquare() {
        CorridorPlan plan = new CorridorPlan();
        for (int square : new int[] {0, 15, 176, 191}) {
            CHECKS.due("ifDug() of " + square, 0, plan.ifDug(square % 16, square / 16, 0));
        }
    }

    private static void dueIfDug(CorridorPlan plan, int x, int y, int closed, int facing, int cost) {
        CHECKS.due("ifDug(" + x + ", " + y + ", 0)", closed, plan.ifDug(x, y, 0));
        CHECKS.due("ifDug(" + x + ", " + y + ", 1)", facing, plan.ifDug(x, y, 1));
        CHECKS.due("ifDug(" + x + ", " + y + ", 2)", cost, plan.ifDug(x, y, 2));
    }

    static void promise19_rockWouldBeDug() {
        CorridorPlan plan = Checks.plan("A#.B");
        plan.walk(0, 1, 1);
        dueIfDug(plan, 1, 0, 0, 1, 0);
        dueIfDug(plan, 9, 9, 1, 0, 1);
    }

    static void promise19_aDugSquareWouldBeFilled() {
        CorridorPlan plan = Checks.plan("A..B");
        plan.walk(0, 1, 1);
        dueIfDug(plan, 1, 0, 1, 0, 1);
        dueIfDug(plan, 9, 9, 0, 1, 0);
    }

    static void promise19_twoWithoutAnyWayStayClosed() {
        CorridorPlan plan = Checks.noWayForCarts();
        dueIfDug(plan, 2, 1, 1, 0, 0);
        dueIfDug(plan, 9, 9, 1, 0, 0);
    }

    static void promise19_itIsWhatDigBrings() {
        for (int square = 0; square < 192; square++) {
            int x = square % 16;
            int y = square / 16;
            CorridorPlan plan = withWalkers();
            CorridorPlan dug = withWalkers();
            if (plan.square(x, y, 0) < 0) {
                dug.dig(x, y);
                dueIfDug(plan, x, y, dug.count(4), dug.count(6), dug.count(7));
            } else {
                dueIfDug(plan, x, y, -1, -1, -1);
            }
        }
    }

    private static CorridorPlan withWalkers() {
        CorridorPlan plan = Checks.plan("", "##A...B", "##A#..B", "####.", "#C...", "", "######DD.###E");
        plan.walk(0, 1, 2);
        plan.walk(0, 2, 1);
        plan.walk(1, 3, 3);
        plan.walk(3, 4, 1);
        return plan;
    }

    static void promise19_nothingIsChanged() {
        CorridorPlan plan = Checks.plan("A#.B");
        plan.walk(0, 1, 1);
        for (int what = 0; what <= 2; what++) {
            plan.ifDug(1, 0, what);
            plan.ifDug(2, 0, what);
            plan.ifDug(0, 0, what);
        }
        CHECKS.duePicture(plan, "behind ifDug()", "A#.B");
        CHECKS.due("count(8)", 4, plan.count(8));
        CHECKS.due("way(0, 1, 0)", 1, plan.way(0, 1, 0));
    }

    static void promise19_theSavedStatesStay() {
        CorridorPlan plan = new CorridorPlan();
        for (int far = 3; far <= 8; far++) {
            plan.set(far);
        }
        plan.ifDug(8, 6, 2);
        for (int left = 5; left >= 0; left--) {
            CHECKS.due("undo()", left, plan.undo());
        }
        CHECKS.due("set(9), what was at first", 2, plan.set(9));
    }

    // ---- 20, ifGiven

    static void promise20_noChamberIsThere() {
        for (int room : new int[] {-1, 2, 5, 6, Checks.LEAST, Checks.MOST}) {
            CorridorPlan plan = Checks.plan("A.B");
            CHECKS.dueThrow(plan, "ifGiven(" + room + ")", Checks.OUT_OF_BOUNDS, () -> plan.ifGiven(room));
        }
    }

    static void promise20_aChamberGivenUpIsNotThere() {
        CorridorPlan plan = Checks.plan("A.B");
        plan.give(0);
        CHECKS.dueThrow(plan, "ifGiven(0)", Checks.OUT_OF_BOUNDS, () -> plan.ifGiven(0));
        CHECKS.due("ifGiven(1)", 0, plan.ifGiven(1));
    }

    static void promise20_theOnlyChamber() {
        CHECKS.due("ifGiven(0)", 0, Checks.plan("A").ifGiven(0));
    }

    static void promise20_theWaysToItCostNothing() {
        CorridorPlan plan = Checks.plan("A##B");
        plan.walk(0, 1, 1);
        CHECKS.due("ifGiven(0)", 0, plan.ifGiven(0));
        CHECKS.due("ifGiven(1)", 0, plan.ifGiven(1));
    }

    static void promise20_theOthersWaysGoOverItsSquares() {
        CorridorPlan plan = Checks.plan("A#B#C");
        plan.walk(0, 2, 1);
        CHECKS.due("count(7)", 5, plan.count(7));
        CHECKS.due("ifGiven(1)", 2, plan.ifGiven(1));
    }

    static void promise20_aWayThatWasNotThere() {
        CorridorPlan plan = Checks.plan("A#C", "#B", "D", "", "", "#####E");
        plan.walk(0, 4, 1);
        CHECKS.due("count(7)", 0, plan.count(7));
        CHECKS.due("ifGiven(1)", 8, plan.ifGiven(1));
        CHECKS.due("ifGiven(4)", 0, plan.ifGiven(4));
    }

    static void promise20_twoWithoutAnyWayAreLeftOut() {
        CorridorPlan plan = Checks.noWayForCarts();
        plan.room(6, 0, 1, 1);
        plan.room(6, 4, 1, 1);
        plan.walk(2, 3, 1);
        CHECKS.due("ifGiven(3)", 0, plan.ifGiven(3));
        CHECKS.due("ifGiven(0)", 3, plan.ifGiven(0));
    }

    static void promise20_itIsWhatGiveBrings() {
        for (int room = 0; room < 5; room++) {
            CorridorPlan given = withWalkers();
            given.give(room);
            CHECKS.due("ifGiven(" + room + ")", given.count(7), withWalkers().ifGiven(room));
        }
    }

    static void promise20_nothingIsChanged() {
        CorridorPlan plan = Checks.plan("A#B#C");
        plan.walk(0, 1, 1);
        plan.walk(0, 2, 2);
        for (int room = 0; room < 3; room++) {
            plan.ifGiven(room);
        }
        CHECKS.duePicture(plan, "behind ifGiven()", "A#B#C");
        CHECKS.due("count(0)", 3, plan.count(0));
        CHECKS.due("way(0, 2, 4)", 2, plan.way(0, 2, 4));
        CHECKS.due("count(8)", 5, plan.count(8));
    }

    // ---- 21, allCost

    static void promise21_nobodyWalks() {
        CHECKS.due("allCost()", 0, Checks.plan("A#B").allCost());
        CHECKS.due("allCost() without chambers", 0, new CorridorPlan().allCost());
    }

    static void promise21_allWaysAreOpen() {
        CorridorPlan plan = Checks.plan("A..B");
        plan.walk(0, 1, 1);
        CHECKS.due("allCost()", 0, plan.allCost());
    }

    static void promise21_noWayIsThere() {
        CHECKS.due("allCost()", 0, Checks.noWayForCarts().allCost());
    }

    static void promise21_aSquareIsCountedOnce() {
        CHECKS.due("allCost()", 68, Checks.windingForCarts().allCost());
    }

    static void promise21_sharedRockIsCountedOnce() {
        CorridorPlan plan = Checks.plan("A##B", "", "###C");
        plan.walk(0, 1, 1);
        plan.walk(0, 2, 1);
        CHECKS.due("count(7)", 6, plan.count(7));
        CHECKS.due("allCost()", 4, plan.allCost());
    }

    static void promise21_itIsWhatCarveAllDigs() {
        CorridorPlan plan = withWalkers();
        int dug = plan.count(1);
        int cost = plan.allCost();
        plan.carveAll();
        CHECKS.due("allCost(), what was dug", plan.count(1) - dug, cost);
        CHECKS.due("allCost() behind carveAll()", 0, plan.allCost());
    }

    static void promise21_nothingIsChanged() {
        CorridorPlan plan = Checks.plan("A#B");
        plan.walk(0, 1, 1);
        CHECKS.due("allCost()", 1, plan.allCost());
        CHECKS.duePicture(plan, "behind allCost()", "A#B");
        CHECKS.due("count(8)", 3, plan.count(8));
        CHECKS.due("allCost() again", 1, plan.allCost());
    }

    // ---- 22, openShare

    static void promise22_nobodyWalks() {
        CHECKS.same("openShare() of a new object", 1.0, new CorridorPlan().openShare());
        CHECKS.same("openShare() of two chambers", 1.0, Checks.plan("A#B").openShare());
    }

    static void promise22_nobodyWalksAnyMore() {
        CorridorPlan plan = Checks.plan("A#B");
        plan.walk(0, 1, 1);
        CHECKS.same("openShare()", 0.0, plan.openShare());
        plan.give(0);
        CHECKS.same("openShare() behind give(0)", 1.0, plan.openShare());
    }

    static void promise22_noneIsOpen() {
        CorridorPlan plan = Checks.plan("A#B#C");
        plan.walk(0, 1, 1);
        plan.walk(1, 2, 1);
        CHECKS.same("openShare()", 0.0, plan.openShare());
    }

    static void promise22_allAreOpen() {
        CorridorPlan plan = Checks.plan("A.B.C");
        plan.walk(0, 1, 1);
        plan.walk(1, 2, 1);
        CHECKS.same("openShare()", 1.0, plan.openShare());
    }

    static void promise22_openWaysWhereNobodyWalksAreLeftOut() {
        CorridorPlan plan = Checks.plan("A.B#C");
        plan.walk(1, 2, 1);
        CHECKS.same("openShare()", 0.0, plan.openShare());
        plan.walk(0, 1, 1);
        CHECKS.same("openShare()", 0.5, plan.openShare());
    }

    static void promise22_twoWithoutAnyWayAreNotOpen() {
        CHECKS.same("openShare()", 0.0, Checks.noWayForCarts().openShare());
    }

    static void promise22_itIsDividedAsADouble() {
        CHECKS.same("openShare(), 1 of 3", 1.0 / 3.0, shareOf(1, 2).openShare());
        CHECKS.same("openShare(), 2 of 3", 2.0 / 3.0, shareOf(2, 1).openShare());
        CHECKS.same("openShare(), 1 of 5", 1.0 / 5.0, shareOf(1, 4).openShare());
        CHECKS.same("openShare(), 4 of 5", 4.0 / 5.0, shareOf(4, 1).openShare());
    }

    /** A's ways to so many chambers are open, and to so many others not, for a pair walks there. */
    private static CorridorPlan shareOf(int open, int closed) {
        CorridorPlan plan = Checks.plan("A.B.C.D.E.F", "..........");
        for (int other = 1; other <= open + closed; other++) {
            plan.walk(0, other, other <= open ? 1 : 2);
        }
        return plan;
    }

    // ---- 23, digest

    static void promise23_aNewObject() {
        List<Long> values = new ArrayList<>(List.of(0L, 0L, 192L, 0L, 0L, 0L, 0L, 0L, 0L, 2L));
        for (int square = 0; square < 192; square++) {
            values.add(-2L);
        }
        values.addAll(List.of(0L, 0L, 0L, 0L, Double.doubleToLongBits(1.0), 0L));
        CHECKS.due("digest()", Digests.hash(values), new CorridorPlan().digest());
    }

    private static void dueDigest(String when, CorridorPlan plan, int far, String buffer) {
        CHECKS.due("digest() " + when, Digests.of(plan, far, buffer), plan.digest());
    }

    static void promise23_oneChamber() {
        dueDigest("of one chamber", Checks.plan("A"), 2, "");
        dueDigest("of one chamber with a door", Checks.plan("A."), 2, "");
    }

    static void promise23_twoChambers() {
        dueDigest("of two chambers", Checks.plan("A#B"), 2, "");
        dueDigest("of two chambers with doors", Checks.plan("A.B"), 2, "");
    }

    static void promise23_sixChambers() {
        CorridorPlan plan = Checks.plan("A#B#C", "", "D#E.F");
        for (int one = 0; one < 6; one++) {
            for (int other = one + 1; other < 6; other++) {
                plan.walk(one, other, (one + other) % 4);
            }
        }
        dueDigest("of six chambers", plan, 2, "");
    }

    static void promise23_theLowestChamberIsNot0() {
        CorridorPlan plan = Checks.plan("A#B#C#D");
        plan.walk(0, 1, 1);
        plan.walk(1, 2, 2);
        plan.walk(1, 3, 1);
        plan.walk(2, 3, 1);
        plan.give(0);
        dueDigest("without A", plan, 2, "");
        plan.give(2);
        dueDigest("without A and C", plan, 2, "");
    }

    static void promise23_noChamberIsLeft() {
        CorridorPlan plan = Checks.plan("A");
        plan.give(0);
        dueDigest("behind give(0)", plan, 2, "");
    }

    static void promise23_noneWhereThereIsNoWay() {
        dueDigest("without a way", Checks.noWayForCarts(), 2, "");
    }

    static void promise23_theSquare8And6() {
        dueDigest("with (8, 6) in a chamber", Checks.plan("", "", "", "", "", "", "########A.B"), 2, "");
        CorridorPlan rock = Checks.plan("", "", "", "", "", "", "#######A#B");
        rock.walk(0, 1, 1);
        dueDigest("with (8, 6) as rock", rock, 2, "");
        CorridorPlan dug = Checks.plan("", "", "", "", "", "", "#######A.B");
        dug.walk(0, 1, 1);
        dueDigest("with (8, 6) dug", dug, 2, "");
    }

    static void promise23_theSetting() {
        for (int far = 0; far <= 9; far++) {
            CorridorPlan plan = Checks.plan("A..B");
            plan.set(far);
            dueDigest("with setting " + far, plan, far, "");
        }
    }

    static void promise23_aDugSquareTellsItsSides() {
        dueDigest("of squares with 0 to 4 sides", Checks.plan("#A#.", "B.C.", "#D#.", "...."), 2, "");
    }

    static void promise23_theBuffer() {
        for (String buffer : new String[] {"!", "~", "AB:!", "A".repeat(60)}) {
            CorridorPlan plan = new CorridorPlan();
            Checks.type(plan, buffer);
            dueDigest("with the buffer " + buffer, plan, 2, buffer);
        }
    }

    static void promise23_theBitsOfEachShare() {
        for (int closed = 0; closed <= 5; closed++) {
            for (int open = 0; open + closed <= 5; open++) {
                CorridorPlan plan = shareOf(open, closed);
                double want = open + closed == 0 ? 1.0 : (double) open / (open + closed);
                CHECKS.same("openShare() of " + open + " and " + closed, want, plan.openShare());
                dueDigest("with " + open + " open ways and " + closed + " that are not", plan, 2, "");
            }
        }
    }

    static void promise23_theSavedStates() {
        for (int saved = 1; saved <= 7; saved++) {
            CorridorPlan plan = new CorridorPlan();
            for (int call = 0; call < saved; call++) {
                plan.set(2);
            }
            dueDigest("behind " + saved + " undoable calls", plan, 2, "");
        }
    }

    static void promise23_isTheSameBehindUndo() {
        CorridorPlan plan = new CorridorPlan();
        long[] digests = new long[6];
        for (int saved = 0; saved < 6; saved++) {
            digests[saved] = plan.digest();
            plan.set(saved);
        }
        for (int left = 5; left >= 0; left--) {
            plan.undo();
            CHECKS.due("digest() with " + left + " saved states left", digests[left], plan.digest());
        }
    }

    static void promise23_nothingIsChanged() {
        CorridorPlan plan = withWalkers();
        Checks.type(plan, "AB");
        String before = Checks.picture(plan);
        long digest = plan.digest();
        CHECKS.due("digest() again", digest, plan.digest());
        CHECKS.same("the plan", before, Checks.picture(plan));
        CHECKS.due("count(8)", 6, plan.count(8));
        CHECKS.due("clearBuffer()", 2, plan.clearBuffer());
    }
}
