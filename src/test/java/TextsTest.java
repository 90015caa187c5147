/** Promises 10 to 14: append, clearBuffer, firstError, run, undo. */
public final class TextsTest {
    private static final Checks CHECKS = new Checks("TextsTest");
    private static final String ROCK = "################";

    public static void main(String[] arguments) {
        append();
        clearBuffer();
        firstError();
        run();
        runUpToTheFirst();
        runRefused();
        undo();
        undoOfEach();
        CHECKS.end();
    }

    private static void append() {
        CHECKS.promise("10, append");
        CorridorPlan plan = Checks.threeInARow();
        CHECKS.due("append(33)", 1, plan.append(33));
        CHECKS.due("append(126)", 2, plan.append(126));
        for (int code : new int[] {32, 127, 0, -1, 256 + 65, Checks.MOST, Checks.LEAST}) {
            CHECKS.dueThrow(plan, "append(" + code + ")", Checks.ILLEGAL_ARGUMENT, () -> plan.append(code));
        }
        for (int length = 3; length <= 60; length++) {
            CHECKS.due("append(65)", length, plan.append(65));
        }
        CHECKS.dueThrow(plan, "append(65), the 61st", Checks.ILLEGAL_STATE, () -> plan.append(65));
        CHECKS.dueThrow(plan, "append(32), the 61st", Checks.ILLEGAL_ARGUMENT, () -> plan.append(32));
        CHECKS.due("count(8), append is not undoable", 3, plan.count(8));
    }

    private static void clearBuffer() {
        CHECKS.promise("11, clearBuffer");
        CorridorPlan plan = Checks.threeInARow();
        Checks.type(plan, "AB:!");
        CHECKS.due("clearBuffer()", 4, plan.clearBuffer());
        CHECKS.due("clearBuffer() again", 0, plan.clearBuffer());
        CHECKS.due("count(8), clearBuffer is not undoable", 3, plan.count(8));
        CHECKS.due("append(66)", 1, plan.append(66));
        Checks.type(plan, "C:!");
        CHECKS.due("run(), of the new text", 1, plan.run());
        CHECKS.duePicture(plan, "behind run()", ROCK, "AA####BB....CC##", "AA####BB####CC##");
    }

    private static void firstError() {
        CHECKS.promise("12, firstError");
        dueErrors(0, "G", "a", "@", ";", ":", "!", "none", "0", "~");
        dueErrors(1, "AA", "AG", "A:", "A@", "FF:one", "A;", "Ab");
        dueErrors(2, "AB;", "AB!", "ABC", "AB-", "FEone");
        dueErrors(3, "AB:x", "AB:None", "AB:;", "AB::", "AB:ar", "AB:art");
        dueErrors(4, "AB:oe", "AB:px", "AB:!x", "AB:!!", "AB:co", "AB:!:");
        dueErrors(5, "AB:noe", "AB:on;", "AB:par", "AB:cat", "AB:!;;");
        dueErrors(6, "AB:nonx", "AB:ones", "AB:one:", "AB:pain", "AB:carr", "AB:!;AA");
        dueErrors(7, "AB:none:", "AB:nones", "AB:pairs", "AB:cart!", "AB:one;a");
        dueErrors(20, "AB:pair;FA:cart;CD:!!", "AB:pair;FA:cart;CD:!AB:!");
        String[] right = {"", "A", "F", "AB", "FE", "AB:", "AB:n", "AB:no", "AB:non", "AB:none", "AB:o", "AB:on",
            "AB:one", "AB:p", "AB:pa", "AB:pai", "AB:pair", "AB:c", "AB:ca", "AB:car", "AB:cart", "AB:!", "AB:!;",
            "AB:none;B", "AB:pair;FA:cart;CD:!", "EC:!;CE:one;DA", "AB:!;".repeat(12), "AB:none;".repeat(7) + "AB:n"};
        for (String text : right) {
            CHECKS.due("firstError() of " + text, text.length(), errorOf(text));
        }
    }

    private static void dueErrors(int want, String... texts) {
        for (String text : texts) {
            CHECKS.due("firstError() of " + text, want, errorOf(text));
            CHECKS.due("firstError() of " + text + ";", want, errorOf(text + ";"));
        }
    }

    private static int errorOf(String text) {
        CorridorPlan plan = new CorridorPlan();
        Checks.type(plan, text);
        int error = plan.firstError();
        CHECKS.due("clearBuffer(), firstError changed nothing", text.length(), plan.clearBuffer());
        return error;
    }

    private static void run() {
        CHECKS.promise("13, run");
        CorridorPlan plan = Checks.threeInARow();
        Checks.type(plan, "BA:pair;AB:!;CB:cart;BC:!;AC:one;AC:none;BA:!");
        CHECKS.due("run()", 7, plan.run());
        CHECKS.duePicture(plan, "behind run()", "##....##....####", "AA....BB....CC##", "AA####BB....CC##");
        CHECKS.due("way(0, 1, 4)", 2, plan.way(0, 1, 4));
        CHECKS.due("way(1, 2, 4)", 3, plan.way(1, 2, 4));
        CHECKS.due("way(0, 2, 4)", 0, plan.way(0, 2, 4));
        CHECKS.due("clearBuffer(), run cleared it", 0, plan.clearBuffer());
        CHECKS.due("count(8), saved as one call", 4, plan.count(8));
        CHECKS.due("undo()", 3, plan.undo());
        CHECKS.duePicture(plan, "behind undo", ROCK, "AA####BB####CC##", "AA####BB####CC##");
        CHECKS.due("count(3) behind undo", 0, plan.count(3));
        CHECKS.due("clearBuffer(), undo leaves the buffer", 0, plan.clearBuffer());
        Checks.type(plan, "AC:one");
        CHECKS.due("run(), one", 1, plan.run());
        CHECKS.due("way(2, 0, 4)", 1, plan.way(2, 0, 4));
    }

    private static void runUpToTheFirst() {
        CorridorPlan plan = Checks.threeInARow();
        Checks.type(plan, "AB:pair;AF:one;AB:none");
        CHECKS.due("run(), there is no F", 1, plan.run());
        CHECKS.due("way(0, 1, 4), what comes behind is not done", 2, plan.way(0, 1, 4));
        Checks.type(plan, "FA:!;AB:none");
        CHECKS.due("run(), none is done", 0, plan.run());
        CHECKS.due("way(0, 1, 4)", 2, plan.way(0, 1, 4));
        CHECKS.due("count(8), that is saved too", 5, plan.count(8));
        CHECKS.due("clearBuffer(), that clears too", 0, plan.clearBuffer());
        CorridorPlan corner = Checks.noWayForCarts();
        Checks.type(corner, "BA:!;AB:one;AB:!");
        CHECKS.due("run(), there is no way", 0, corner.run());
        CHECKS.due("way(0, 1, 4)", 3, corner.way(0, 1, 4));
        Checks.type(corner, "AB:one;BA:!;AB:cart;AB:!;AB:none");
        CHECKS.due("run(), there is a way at first", 3, corner.run());
        CHECKS.due("way(0, 1, 4)", 3, corner.way(0, 1, 4));
        CHECKS.due("count(1)", 1, corner.count(1));
    }

    private static void runRefused() {
        String[] texts = {"", "A", "AB", "AB:", "AB:n", "AB:non", "AB:on", "AB:!;", "AB:none;B", "AB:one;;", "AA:one",
            "AB:!;".repeat(12), "AB:two", "x", "AB:!!", "AB:one;AB"};
        for (String text : texts) {
            CorridorPlan plan = Checks.threeInARow();
            Checks.type(plan, text);
            CHECKS.dueThrow(plan, "run() of " + text, Checks.ILLEGAL_ARGUMENT, plan::run);
            CHECKS.due("clearBuffer() behind run() of " + text, text.length(), plan.clearBuffer());
            CHECKS.due("count(8) behind run() of " + text, 3, plan.count(8));
        }
    }

    private static void undo() {
        CHECKS.promise("14, undo");
        CorridorPlan plan = new CorridorPlan();
        CHECKS.dueThrow(plan, "undo(), at first", Checks.ILLEGAL_STATE, plan::undo);
        for (int i = 0; i < 8; i++) {
            plan.dig(i, 0);
            CHECKS.due("count(8)", Math.min(6, i + 1), plan.count(8));
        }
        Checks.type(plan, "AB");
        for (int left = 5; left >= 0; left--) {
            CHECKS.due("undo()", left, plan.undo());
            CHECKS.due("count(1)", left + 2, plan.count(1));
            CHECKS.due("count(8)", left, plan.count(8));
        }
        CHECKS.dueThrow(plan, "undo(), the oldest are dropped", Checks.ILLEGAL_STATE, plan::undo);
        CHECKS.duePicture(plan, "behind all undo()", "..##############");
        CHECKS.due("clearBuffer(), undo leaves the buffer", 2, plan.clearBuffer());
        plan.dig(9, 9);
        plan.dig(9, 10);
        CHECKS.due("undo(), between others", 1, plan.undo());
        plan.dig(9, 11);
        CHECKS.due("undo(), between others", 1, plan.undo());
        CHECKS.due("square(9, 11, 0)", -2, plan.square(9, 11, 0));
        CHECKS.due("square(9, 9, 0)", -1, plan.square(9, 9, 0));
        CHECKS.due("undo()", 0, plan.undo());
        CHECKS.duePicture(plan, "behind it", "..##############");
    }

    /** Each undoable call saves one state, also if it changes nothing; undone, all is as before it. */
    private static void undoOfEach() {
        for (int number = 0; number < 11; number++) {
            CorridorPlan plan = Checks.threeInARow();
            plan.walk(0, 1, 2);
            plan.dig(3, 1);
            Checks.type(plan, "AC:!");
            String before = stateOf(plan);
            long digest = plan.digest();
            doUndoable(plan, number);
            CHECKS.due("count(8) behind call " + number, 6, plan.count(8));
            CHECKS.due("undo() of call " + number, 5, plan.undo());
            CHECKS.same("the state behind undo() of call " + number, before, stateOf(plan));
            if (number < 10) {
                CHECKS.due("digest() behind undo() of call " + number, digest, plan.digest());
            }
        }
    }

    private static void doUndoable(CorridorPlan plan, int number) {
        switch (number) {
            case 0: plan.room(0, 8, 2, 2); break;
            case 1: plan.give(1); break;
            case 2: plan.walk(0, 2, 3); break;
            case 3: plan.walk(0, 1, 2); break;
            case 4: plan.dig(9, 9); break;
            case 5: plan.carve(0, 2); break;
            case 6: plan.carveAll(); break;
            case 7: plan.fillUp(); break;
            case 8: plan.set(7); break;
            case 9: plan.set(2); break;
            default: plan.run(); break;
        }
    }

    private static String stateOf(CorridorPlan plan) {
        StringBuilder state = new StringBuilder(Checks.picture(plan));
        for (int what = 0; what <= 8; what++) {
            state.append(plan.count(what)).append(' ');
        }
        return state.append(plan.way(0, 1, 4)).append(plan.way(0, 2, 4)).append(plan.way(1, 2, 4)).toString();
    }
}
