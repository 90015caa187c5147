import java.util.ArrayList;
import java.util.List;
import java.util.Random;

/**
 * Long runs of calls, always the same ones, on the program and on ReferencePlan: each answer, each exception and,
 * again and again, the whole state must be the same.
 */
public final class ReferenceTest {
    /** So many that with the last looks at the whole an object is used for at most 512 calls. */
    private static final int CALLS = 260;

    private interface Call {
        long answer();
    }

    private final Random random;
    private final CorridorPlan plan = new CorridorPlan();
    private final ReferencePlan reference = new ReferencePlan();
    private final List<String> told = new ArrayList<>();
    private final boolean roomy;
    private int calls = 0;

    private ReferenceTest(long seed) {
        random = new Random(seed);
        roomy = random.nextBoolean();
    }

    public static void main(String[] arguments) {
        int runs = arguments.length > 0 ? Integer.parseInt(arguments[0]) : 60;
        int firstSeed = arguments.length > 1 ? Integer.parseInt(arguments[1]) : 1;
        for (int seed = firstSeed; seed < firstSeed + runs; seed++) {
            new ReferenceTest(seed).play();
        }
        System.out.println("ReferenceTest: " + runs + " runs are as due");
    }

    private void play() {
        int rooms = random.nextInt(8);
        for (int i = 0; i < rooms; i++) {
            room();
        }
        while (calls < CALLS) {
            change();
            look();
            if (random.nextInt(8) == 0) {
                compare("digest()", plan::digest, reference::digest);
            }
        }
        compareWhole();
    }

    private static String answerOf(Call call) {
        try {
            return Long.toString(call.answer());
        } catch (RuntimeException e) {
            return "throws." + e.getClass().getSimpleName();
        }
    }

    private void compare(String name, Call ofPlan, Call ofReference) {
        calls++;
        String got = answerOf(ofPlan);
        String due = answerOf(ofReference);
        told.add(name + " -> " + got);
        if (!got.equals(due)) {
            for (String line : told) {
                System.out.println(line);
            }
            System.out.println("due was " + due);
            System.exit(1);
        }
    }

    private int among(int below) {
        return random.nextInt(40) == 0 ? (random.nextBoolean() ? -1 : below) : random.nextInt(below);
    }

    private void change() {
        switch (random.nextInt(15)) {
            case 0: room(); break;
            case 1: if (random.nextInt(3) == 0) { give(); } else { walk(); } break;
            case 2: case 3: case 4: walk(); break;
            case 5: case 6: case 7: dig(); break;
            case 8: tunnel(); break;
            case 9: carve(); break;
            case 10: if (random.nextInt(2) == 0) { compare("carveAll()", plan::carveAll, reference::carveAll); } break;
            case 11: if (random.nextInt(2) == 0) { compare("fillUp()", plan::fillUp, reference::fillUp); } break;
            case 12: set(); break;
            case 13: text(); break;
            default: undo(); break;
        }
    }

    private void room() {
        int most = roomy ? 3 : 6;
        int columns = random.nextInt(30) == 0 ? 8 * random.nextInt(2) : 1 + random.nextInt(most);
        int rows = random.nextInt(30) == 0 ? 7 * random.nextInt(2) : 1 + random.nextInt(most);
        int x = random.nextInt(18) - 1;
        int y = random.nextInt(14) - 1;
        compare("room(" + x + ", " + y + ", " + columns + ", " + rows + ")",
                () -> plan.room(x, y, columns, rows), () -> reference.room(x, y, columns, rows));
    }

    private void give() {
        int room = among(6);
        compare("give(" + room + ")", () -> plan.give(room), () -> reference.give(room));
    }

    private void walk() {
        int one = among(6);
        int other = among(6);
        int width = among(4);
        compare("walk(" + one + ", " + other + ", " + width + ")",
                () -> plan.walk(one, other, width), () -> reference.walk(one, other, width));
    }

    private void dig() {
        int x = among(16);
        int y = among(12);
        compare("dig(" + x + ", " + y + ")", () -> plan.dig(x, y), () -> reference.dig(x, y));
    }

    private void tunnel() {
        boolean across = random.nextBoolean();
        int startX = random.nextInt(16);
        int startY = random.nextInt(12);
        int length = random.nextInt(8);
        for (int i = 0; i < length; i++) {
            int x = startX + (across ? i : 0);
            int y = startY + (across ? 0 : i);
            compare("dig(" + x + ", " + y + ")", () -> plan.dig(x, y), () -> reference.dig(x, y));
        }
    }

    private void carve() {
        int one = among(6);
        int other = among(6);
        compare("carve(" + one + ", " + other + ")", () -> plan.carve(one, other), () -> reference.carve(one, other));
    }

    private void set() {
        int far = among(10);
        compare("set(" + far + ")", () -> plan.set(far), () -> reference.set(far));
    }

    private void undo() {
        int times = 1 + random.nextInt(3);
        for (int i = 0; i < times; i++) {
            compare("undo()", plan::undo, reference::undo);
        }
    }

    private void text() {
        StringBuilder text = new StringBuilder();
        int orders = 1 + random.nextInt(4);
        for (int i = 0; i < orders; i++) {
            text.append(i == 0 ? "" : ";").append("ABCDEF".charAt(random.nextInt(6)))
                    .append("ABCDEF".charAt(random.nextInt(6))).append(':')
                    .append(List.of("none", "one", "pair", "cart", "!", "!").get(random.nextInt(6)));
        }
        if (random.nextInt(3) == 0) {
            text.setCharAt(random.nextInt(text.length()), (char) (32 + random.nextInt(96)));
        }
        if (random.nextInt(4) == 0) {
            text.setLength(random.nextInt(text.length()));
        }
        for (int i = 0; i < text.length(); i++) {
            int code = text.charAt(i);
            compare("append(" + code + ")", () -> plan.append(code), () -> reference.append(code));
            if (random.nextInt(6) == 0) {
                compare("firstError()", plan::firstError, reference::firstError);
            }
        }
        compare("firstError()", plan::firstError, reference::firstError);
        compare("run()", plan::run, reference::run);
        if (random.nextInt(3) > 0) {
            compare("clearBuffer()", plan::clearBuffer, reference::clearBuffer);
        }
    }

    private void look() {
        int x = among(16);
        int y = among(12);
        int one = among(6);
        int other = among(6);
        int what = among(9);
        switch (random.nextInt(8)) {
            case 0:
                compare("square(" + x + ", " + y + ", " + what % 3 + ")",
                        () -> plan.square(x, y, what % 3), () -> reference.square(x, y, what % 3));
                break;
            case 1:
                compare("chamber(" + one + ", " + what + ")",
                        () -> plan.chamber(one, what), () -> reference.chamber(one, what));
                break;
            case 2:
                compare("way(" + one + ", " + other + ", " + what % 6 + ")",
                        () -> plan.way(one, other, what % 6), () -> reference.way(one, other, what % 6));
                break;
            case 3:
                compare("count(" + what + ")", () -> plan.count(what), () -> reference.count(what));
                break;
            case 4:
                compare("ifDug(" + x + ", " + y + ", " + what % 4 + ")",
                        () -> plan.ifDug(x, y, what % 4), () -> reference.ifDug(x, y, what % 4));
                break;
            case 5:
                compare("ifGiven(" + one + ")", () -> plan.ifGiven(one), () -> reference.ifGiven(one));
                break;
            case 6:
                compare("allCost()", plan::allCost, reference::allCost);
                break;
            default:
                compare("openShare()", () -> Double.doubleToLongBits(plan.openShare()),
                        () -> Double.doubleToLongBits(reference.openShare()));
                break;
        }
    }

    private void compareWhole() {
        for (int one = 0; one < 6; one++) {
            for (int other = 0; other < 6; other++) {
                for (int what = 0; what <= 4; what++) {
                    int former = one;
                    int latter = other;
                    int number = what;
                    compare("way(" + one + ", " + other + ", " + what + ")",
                            () -> plan.way(former, latter, number), () -> reference.way(former, latter, number));
                }
            }
        }
        compare("digest()", plan::digest, reference::digest);
    }
}
