/**
 * Promises 10 to 14 (append, clearBuffer, firstError, run, undo): a test of its own for each boundary case that the
 * document names.
 */
public final class TextsEdgeTest {
    private static final Checks CHECKS = new Checks("TextsEdgeTest");
    /** Eleven orders that fill the buffer just up to its end. */
    private static final String SIXTY = "AB:!;".repeat(9) + "AB:pair;BA:cart";

    public static void main(String[] arguments) {
        CHECKS.runEach(TextsEdgeTest.class);
        CHECKS.end();
    }

    private static CorridorPlan typed(String text) {
        CorridorPlan plan = Checks.plan("A##B");
        Checks.type(plan, text);
        return plan;
    }

    // ---- 10, append

    private static void dueCodeRefused(int code) {
        CorridorPlan plan = typed("AB");
        CHECKS.dueThrow(plan, "append(" + code + ")", Checks.ILLEGAL_ARGUMENT, () -> plan.append(code));
        CHECKS.due("clearBuffer() behind append(" + code + ")", 2, plan.clearBuffer());
    }

    static void promise10_code32IsRefused() {
        dueCodeRefused(32);
    }

    static void promise10_code33IsTheLeast() {
        CHECKS.due("append(33)", 1, new CorridorPlan().append(33));
    }

    static void promise10_code126IsTheMost() {
        CHECKS.due("append(126)", 1, new CorridorPlan().append(126));
    }

    static void promise10_code127IsRefused() {
        dueCodeRefused(127);
    }

    static void promise10_codesFarOutOfRangeAreRefused() {
        dueCodeRefused(0);
        dueCodeRefused(-1);
        dueCodeRefused(Checks.LEAST);
        dueCodeRefused(Checks.MOST);
    }

    static void promise10_aCodeThatWrapsAroundIsRefused() {
        dueCodeRefused(65 + 128);
        dueCodeRefused(65 + 256);
        dueCodeRefused(65 + 65536);
        dueCodeRefused(65 - 256);
    }

    static void promise10_eachCodeIsKept() {
        for (int code = 33; code <= 126; code++) {
            CorridorPlan plan = new CorridorPlan();
            long empty = plan.digest();
            plan.append(code);
            CHECKS.due("digest() with " + code, (empty + 1) * 31 + code, plan.digest());
        }
    }

    static void promise10_theBufferHas60Characters() {
        CorridorPlan plan = new CorridorPlan();
        for (int length = 1; length <= 60; length++) {
            CHECKS.due("append(65)", length, plan.append(65));
        }
        CHECKS.due("clearBuffer()", 60, plan.clearBuffer());
    }

    static void promise10_the61stCharacterIsRefused() {
        CorridorPlan plan = typed(SIXTY);
        CHECKS.dueThrow(plan, "append(65)", Checks.ILLEGAL_STATE, () -> plan.append(65));
        CHECKS.due("clearBuffer()", 60, plan.clearBuffer());
    }

    static void promise10_theCodeIsNamedBeforeTheFullBuffer() {
        CorridorPlan plan = typed(SIXTY);
        CHECKS.dueThrow(plan, "append(32)", Checks.ILLEGAL_ARGUMENT, () -> plan.append(32));
        CHECKS.dueThrow(plan, "append(127)", Checks.ILLEGAL_ARGUMENT, () -> plan.append(127));
    }

    static void promise10_isNotUndoable() {
        CorridorPlan plan = typed("");
        plan.append(65);
        CHECKS.due("count(8)", 2, plan.count(8));
        plan.undo();
        CHECKS.due("append(66) behind undo()", 2, plan.append(66));
    }

    static void promise10_aRefusedCallLeavesTheSavedStates() {
        CorridorPlan code = typed("AB");
        CHECKS.dueSavedStatesStay(code, "append(32)", Checks.ILLEGAL_ARGUMENT, () -> code.append(32));
        CorridorPlan full = typed(SIXTY);
        CHECKS.dueSavedStatesStay(full, "append(65)", Checks.ILLEGAL_STATE, () -> full.append(65));
    }

    // ---- 11, clearBuffer

    static void promise11_theEmptyBuffer() {
        CorridorPlan plan = new CorridorPlan();
        CHECKS.due("clearBuffer()", 0, plan.clearBuffer());
        CHECKS.due("clearBuffer() again", 0, plan.clearBuffer());
    }

    static void promise11_oneCharacter() {
        CorridorPlan plan = typed("!");
        CHECKS.due("clearBuffer()", 1, plan.clearBuffer());
        CHECKS.due("clearBuffer() again", 0, plan.clearBuffer());
    }

    static void promise11_theFullBuffer() {
        CorridorPlan plan = typed(SIXTY);
        CHECKS.due("clearBuffer()", 60, plan.clearBuffer());
        for (int length = 1; length <= 60; length++) {
            CHECKS.due("append(66) behind it", length, plan.append(66));
        }
        CHECKS.dueThrow(plan, "append(66), the 61st behind it", Checks.ILLEGAL_STATE, () -> plan.append(66));
    }

    static void promise11_nothingOfTheOldTextIsLeft() {
        CorridorPlan plan = typed("AB:!");
        plan.clearBuffer();
        Checks.type(plan, "A");
        CHECKS.due("firstError()", 1, plan.firstError());
        CHECKS.dueThrow(plan, "run()", Checks.ILLEGAL_ARGUMENT, plan::run);
    }

    static void promise11_isNotUndoable() {
        CorridorPlan plan = typed("AB:!");
        plan.clearBuffer();
        CHECKS.due("count(8)", 2, plan.count(8));
        plan.undo();
        CHECKS.due("clearBuffer() behind undo()", 0, plan.clearBuffer());
    }

    // ---- 12, firstError

    private static void dueError(int want, String text) {
        CorridorPlan plan = typed(text);
        CHECKS.due("firstError() of " + text, want, plan.firstError());
        CHECKS.due("clearBuffer() behind firstError() of " + text, text.length(), plan.clearBuffer());
    }

    private static void dueNoError(String... texts) {
        for (String text : texts) {
            dueError(text.length(), text);
        }
    }

    static void promise12_theEmptyBufferHasNone() {
        dueNoError("");
    }

    static void promise12_ordersThatAreNotAtTheirEndHaveNone() {
        dueNoError("A", "AB", "AB:", "AB:n", "AB:no", "AB:non", "AB:o", "AB:on", "AB:p", "AB:pa", "AB:pai", "AB:c",
                "AB:ca", "AB:car");
    }

    static void promise12_wholeOrdersHaveNone() {
        dueNoError("AB:none", "AB:one", "AB:pair", "AB:cart", "AB:!");
    }

    static void promise12_ordersThatGoOnHaveNone() {
        dueNoError("AB:!;", "AB:none;", "AB:!;B", "AB:one;BA:", "AB:cart;BA:pa", "AB:!;AB:!;AB:!");
    }

    static void promise12_aTextMayGoOnBehindTheFullBuffer() {
        dueNoError("AB:none;".repeat(7) + "AB:n", "AB:!;".repeat(12), "AB:!;".repeat(11) + "AB:ca");
    }

    static void promise12_theFullBufferOfWholeOrdersHasNone() {
        dueNoError(SIXTY);
    }

    static void promise12_theLastCharacterOfTheFullBufferIsOne() {
        dueError(59, "AB:!;".repeat(11) + "AB:!!");
        dueError(59, "AB:none;".repeat(7) + "AB:;");
    }

    static void promise12_theFirstCharacterIsOne() {
        for (String text : new String[] {"@", "G", "a", "!", ";", ":", "1", "~"}) {
            dueError(0, text);
        }
    }

    static void promise12_theLettersEndAtF() {
        dueNoError("AF", "FA");
        dueError(0, "GA");
        dueError(1, "AG");
        dueError(0, "@A");
        dueError(1, "A@");
    }

    static void promise12_lettersAreCapital() {
        dueError(0, "aB:!");
        dueError(1, "Ab:!");
        dueError(3, "AB:One");
        dueError(4, "AB:oNe");
    }

    static void promise12_theLettersAreUnlike() {
        for (char letter = 'A'; letter <= 'F'; letter++) {
            dueError(1, "" + letter + letter);
            dueError(1, "" + letter + letter + ":!");
        }
    }

    static void promise12_aColonStandsBehindTheLetters() {
        dueError(2, "AB!");
        dueError(2, "AB;");
        dueError(2, "ABC");
        dueError(3, "AB::");
    }

    static void promise12_aWordThatIsMissing() {
        dueError(3, "AB:;");
        dueError(3, "AB:x");
        dueError(3, "AB:1");
    }

    static void promise12_aWordThatEndsTooSoon() {
        dueError(6, "AB:non;");
        dueError(5, "AB:on;");
        dueError(6, "AB:pai;");
        dueError(6, "AB:car;");
    }

    static void promise12_aWordThatEndsTooLate() {
        dueError(7, "AB:nones");
        dueError(6, "AB:ones");
        dueError(7, "AB:pairs");
        dueError(7, "AB:carts");
        dueError(4, "AB:!!");
    }

    static void promise12_aWordThatGoesOnAsAnother() {
        dueError(5, "AB:noe");
        dueError(4, "AB:co");
        dueError(5, "AB:pan");
        dueError(6, "AB:carr");
    }

    static void promise12_twoSemicolons() {
        dueError(5, "AB:!;;");
        dueError(0, ";AB:!");
    }

    static void promise12_anErrorInALaterOrder() {
        dueError(5, "AB:!;G");
        dueError(6, "AB:!;AA");
        dueError(14, "AB:none;AB:oneAB:!");
    }

    static void promise12_theFirstOfSeveralIsTold() {
        dueError(1, "AA:x;;");
        dueError(3, "AB:?AB:?");
    }

    static void promise12_whatComesBehindDoesNotMend() {
        dueError(4, "AB:!:AB:!");
        dueError(2, "AB-:!;AB:!");
    }

    static void promise12_nothingIsChanged() {
        CorridorPlan plan = typed("AB:!!");
        long digest = plan.digest();
        plan.firstError();
        CHECKS.due("digest()", digest, plan.digest());
        CHECKS.due("firstError() again", 4, plan.firstError());
    }

    // ---- 13, run

    private static void dueRunRefused(String text) {
        CorridorPlan plan = typed(text);
        CHECKS.dueThrow(plan, "run() of " + text, Checks.ILLEGAL_ARGUMENT, plan::run);
        CHECKS.due("count(8) behind run() of " + text, 2, plan.count(8));
        CHECKS.due("clearBuffer() behind run() of " + text, text.length(), plan.clearBuffer());
        CHECKS.duePicture(plan, "behind run() of " + text, "A##B");
    }

    static void promise13_theEmptyBufferIsRefused() {
        dueRunRefused("");
    }

    static void promise13_anOrderThatIsNotAtItsEndIsRefused() {
        for (String text : new String[] {"A", "AB", "AB:", "AB:n", "AB:non", "AB:on", "AB:pai", "AB:car"}) {
            dueRunRefused(text);
        }
    }

    static void promise13_aSemicolonAtTheEndIsRefused() {
        dueRunRefused("AB:!;");
        dueRunRefused("AB:!;".repeat(12));
    }

    static void promise13_aLaterOrderThatIsNotAtItsEndIsRefused() {
        dueRunRefused("AB:!;AB:pai");
        dueRunRefused("AB:!;AB");
    }

    static void promise13_aSyntaxErrorIsRefused() {
        dueRunRefused("AB:!!");
        dueRunRefused("AA:!");
        dueRunRefused("AB:!;AB:!x");
        dueRunRefused(";AB:!");
    }

    static void promise13_oneOrder() {
        CorridorPlan plan = typed("AB:!");
        CHECKS.due("run()", 1, plan.run());
        CHECKS.duePicture(plan, "behind run()", "A..B");
        CHECKS.due("clearBuffer()", 0, plan.clearBuffer());
    }

    static void promise13_eachWordTellsItsWidth() {
        String[] words = {"none", "one", "pair", "cart"};
        for (int width = 0; width < words.length; width++) {
            CorridorPlan plan = typed("BA:" + words[width]);
            plan.walk(0, 1, width == 1 ? 2 : 1);
            CHECKS.due("run() of " + words[width], 1, plan.run());
            CHECKS.due("way(0, 1, 4) behind " + words[width], width, plan.way(0, 1, 4));
        }
    }

    static void promise13_theFullBuffer() {
        CorridorPlan plan = typed(SIXTY);
        CHECKS.due("run()", 11, plan.run());
        CHECKS.due("way(0, 1, 4)", 3, plan.way(0, 1, 4));
        CHECKS.due("clearBuffer()", 0, plan.clearBuffer());
    }

    static void promise13_theMostOrdersAre12() {
        CorridorPlan plan = typed("AB:!;".repeat(11) + "BA:!");
        CHECKS.due("run()", 12, plan.run());
    }

    static void promise13_theFirstLetterIsTheFormer() {
        CorridorPlan plan = Checks.twoSides();
        Checks.type(plan, "BA:!");
        plan.run();
        CHECKS.due("square(4, 3, 0)", -1, plan.square(4, 3, 0));
        CHECKS.due("square(6, 2, 0)", -2, plan.square(6, 2, 0));
    }

    static void promise13_anOrderThatChangesNothingIsDone() {
        CorridorPlan plan = typed("AB:none;AB:!;AB:!");
        CHECKS.due("run()", 3, plan.run());
    }

    static void promise13_endsAtAChamberThatIsNotThere() {
        CorridorPlan plan = typed("AB:pair;AC:one;AB:cart");
        CHECKS.due("run()", 1, plan.run());
        CHECKS.due("way(0, 1, 4)", 2, plan.way(0, 1, 4));
        CHECKS.due("clearBuffer()", 0, plan.clearBuffer());
        Checks.type(plan, "AB:cart;FB:!;AB:one");
        CHECKS.due("run()", 1, plan.run());
        CHECKS.due("way(0, 1, 4)", 3, plan.way(0, 1, 4));
    }

    static void promise13_endsWhereThereIsNoWay() {
        CorridorPlan plan = Checks.noWayForCarts();
        Checks.type(plan, "AB:pair;AB:cart;AB:!;AB:none");
        CHECKS.due("run()", 2, plan.run());
        CHECKS.due("way(0, 1, 4)", 3, plan.way(0, 1, 4));
        CHECKS.due("clearBuffer()", 0, plan.clearBuffer());
    }

    static void promise13_anOrderBeforeMayMakeTheWay() {
        CorridorPlan plan = Checks.noWayForCarts();
        Checks.type(plan, "AB:one;AB:!");
        CHECKS.due("run()", 2, plan.run());
        CHECKS.due("count(1)", 1, plan.count(1));
    }

    static void promise13_noneIsDone() {
        CorridorPlan plan = typed("AC:!;AB:!");
        CHECKS.due("run()", 0, plan.run());
        CHECKS.duePicture(plan, "behind run()", "A##B");
        CHECKS.due("clearBuffer()", 0, plan.clearBuffer());
    }

    static void promise13_isUndoableAsOneCall() {
        CorridorPlan plan = typed("AB:one;AB:!;BA:none");
        CHECKS.due("run()", 3, plan.run());
        CHECKS.due("count(8)", 3, plan.count(8));
        CHECKS.due("undo()", 2, plan.undo());
        CHECKS.duePicture(plan, "behind undo()", "A##B");
        CHECKS.due("way(0, 1, 4)", 0, plan.way(0, 1, 4));
        CHECKS.due("clearBuffer(), the buffer is not saved", 0, plan.clearBuffer());
    }

    static void promise13_isUndoableAlsoIfNoneIsDone() {
        CorridorPlan plan = typed("AC:!");
        plan.run();
        CHECKS.due("count(8)", 3, plan.count(8));
        CHECKS.due("undo()", 2, plan.undo());
    }

    static void promise13_aRefusedCallLeavesTheSavedStates() {
        CorridorPlan plan = typed("AB:!;");
        CHECKS.dueSavedStatesStay(plan, "run()", Checks.ILLEGAL_ARGUMENT, plan::run);
    }

    // ---- 14, undo

    static void promise14_noStateIsSaved() {
        CorridorPlan plan = new CorridorPlan();
        CHECKS.dueThrow(plan, "undo()", Checks.ILLEGAL_STATE, plan::undo);
    }

    static void promise14_oneStateIsSaved() {
        CorridorPlan plan = new CorridorPlan();
        plan.dig(0, 0);
        CHECKS.due("undo()", 0, plan.undo());
        CHECKS.duePicture(plan, "behind undo()");
        CHECKS.dueThrow(plan, "undo() again", Checks.ILLEGAL_STATE, plan::undo);
    }

    private static void dueStatesBehind(int calls) {
        CorridorPlan plan = new CorridorPlan();
        for (int call = 0; call < calls; call++) {
            plan.dig(call % 16, call / 16);
        }
        int saved = Math.min(6, calls);
        CHECKS.due("count(8) behind " + calls + " calls", saved, plan.count(8));
        for (int left = saved - 1; left >= 0; left--) {
            CHECKS.due("undo() behind " + calls + " calls", left, plan.undo());
            CHECKS.due("count(1) with " + left + " left behind " + calls + " calls", calls - saved + left, plan.count(1));
            CHECKS.due("count(8) behind undo()", left, plan.count(8));
        }
        CHECKS.dueThrow(plan, "undo() of all behind " + calls + " calls", Checks.ILLEGAL_STATE, plan::undo);
    }

    static void promise14_sixStatesAreSaved() {
        dueStatesBehind(6);
    }

    static void promise14_of7StatesTheOldestIsDropped() {
        dueStatesBehind(7);
    }

    static void promise14_ofManyStatesTheOldestAreDropped() {
        dueStatesBehind(12);
        dueStatesBehind(13);
        dueStatesBehind(100);
    }

    static void promise14_savesGoOnBehindUndo() {
        CorridorPlan plan = new CorridorPlan();
        int[] dugBefore = new int[600];
        int saved = 0;
        for (int round = 0; round < 16; round++) {
            for (int call = 0; call < 1 + round % 8; call++) {
                dugBefore[saved] = plan.count(1);
                saved++;
                plan.dig((saved * 7 + round) % 16, round % 12);
            }
            int kept = Math.min(6, 1 + round % 8);
            for (int back = 0; back < kept - 1; back++) {
                plan.undo();
                saved--;
                CHECKS.due("count(1) behind undo() in round " + round, dugBefore[saved], plan.count(1));
            }
        }
    }

    static void promise14_allButTheBufferAndTheSavedStatesIsRestored() {
        CorridorPlan plan = Checks.plan("A##B");
        plan.walk(0, 1, 2);
        plan.dig(9, 9);
        Checks.type(plan, "AC");
        long digest = plan.digest();
        plan.room(6, 6, 2, 2);
        plan.give(0);
        plan.set(9);
        plan.dig(9, 9);
        CHECKS.due("undo()", 5, plan.undo());
        CHECKS.due("square(9, 9, 0)", -1, plan.square(9, 9, 0));
        CHECKS.due("undo()", 4, plan.undo());
        CHECKS.due("set(9)", 2, plan.set(9));
        CHECKS.due("undo()", 4, plan.undo());
        CHECKS.due("undo()", 3, plan.undo());
        CHECKS.due("way(0, 1, 4)", 2, plan.way(0, 1, 4));
        CHECKS.due("chamber(2, 0)", 6, plan.chamber(2, 0));
        CHECKS.due("undo()", 2, plan.undo());
        plan.set(2);
        plan.set(2);
        CHECKS.due("digest() with as many saved states", digest, plan.digest());
    }

    static void promise14_theBufferIsNotRestored() {
        CorridorPlan plan = typed("AB");
        plan.dig(9, 9);
        Checks.type(plan, ":!");
        plan.undo();
        CHECKS.due("firstError()", 4, plan.firstError());
        CHECKS.due("run()", 1, plan.run());
        plan.undo();
        CHECKS.due("clearBuffer()", 0, plan.clearBuffer());
    }

    static void promise14_isNotUndoableItself() {
        CorridorPlan plan = new CorridorPlan();
        plan.dig(0, 0);
        plan.dig(1, 0);
        CHECKS.due("undo()", 1, plan.undo());
        CHECKS.due("undo(), of the call before it", 0, plan.undo());
        CHECKS.duePicture(plan, "behind both");
    }

    static void promise14_looksSaveNothing() {
        CorridorPlan plan = typed("AB:!");
        plan.walk(0, 1, 1);
        plan.firstError();
        plan.square(0, 0, 0);
        plan.chamber(0, 7);
        plan.way(0, 1, 0);
        plan.count(7);
        plan.ifDug(1, 0, 2);
        plan.ifGiven(0);
        plan.allCost();
        plan.openShare();
        plan.digest();
        CHECKS.due("count(8)", 3, plan.count(8));
    }

    static void promise14_theLastOf512CallsCanBeUndone() {
        CorridorPlan plan = new CorridorPlan();
        for (int call = 1; call <= 505; call++) {
            plan.set(call % 10);
        }
        for (int left = 5; left >= 0; left--) {
            CHECKS.due("undo()", left, plan.undo());
        }
        CHECKS.due("call 512, set(0)", 499 % 10, plan.set(0));
    }
}
