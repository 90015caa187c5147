import java.io.IOException;
import java.lang.reflect.Method;
import java.lang.reflect.Modifier;
import java.nio.file.Files;
import java.nio.file.Path;
import java.util.List;
import java.util.Set;
import java.util.TreeSet;

/** What README.md tells of the class: each answer of its example, and a row of its table for each method. */
public final class ReadmeTest {
    private static final Checks CHECKS = new Checks("ReadmeTest");

    private final List<String> readme;
    private int next = 0;

    private ReadmeTest(List<String> readme) {
        this.readme = readme;
    }

    public static void main(String[] arguments) throws IOException {
        ReadmeTest test = new ReadmeTest(Files.readAllLines(Path.of("README.md")));
        CHECKS.promise("README.md");
        test.example();
        test.table();
        CHECKS.end();
    }

    private void example() {
        CorridorPlan plan = new CorridorPlan();
        int a = plan.room(0, 1, 2, 2);
        answers("int a = plan.room(0, 1, 2, 2);", a);
        int b = plan.room(6, 1, 2, 2);
        answers("int b = plan.room(6, 1, 2, 2);", b);
        answers("plan.walk(a, b, 2);", plan.walk(a, b, 2));
        answers("plan.way(a, b, 0);", plan.way(a, b, 0));
        answers("plan.carve(a, b);", plan.carve(a, b));
        answers("plan.count(6);", plan.count(6));
        answers("plan.set(3);", plan.set(3));
        answers("plan.count(6);", plan.count(6));
        answers("plan.openShare();", plan.openShare());
        answers("plan.undo();", plan.undo());
        answers("plan.undo();", plan.undo());
        tells("for (char code : \"AB:cart;AB:!\".toCharArray()) {");
        Checks.type(plan, "AB:cart;AB:!");
        answers("plan.firstError();", plan.firstError());
        answers("plan.run();", plan.run());
        answers("plan.square(2, 0, 0);", plan.square(2, 0, 0));
        answers("plan.fillUp();", plan.fillUp());
        answers("plan.give(b);", plan.give(b));
    }

    /** The next line of the README that holds a call tells this answer. */
    private void answers(String call, Object answer) {
        String line = lineWith("plan.");
        CHECKS.same("the next call of README.md", call, line.replaceAll(" *//.*", ""));
        CHECKS.same("the answer that README.md tells of " + call, answer.toString(),
                line.replaceAll(".*// ", "").replaceAll(": .*", ""));
    }

    private void tells(String told) {
        CHECKS.same("README.md tells", told, lineWith("for "));
        lineWith("plan.append(code);");
    }

    private String lineWith(String part) {
        while (next < readme.size() && !readme.get(next).contains(part)) {
            next++;
        }
        next++;
        return next <= readme.size() ? readme.get(next - 1) : "no line with " + part;
    }

    private void table() {
        Set<String> methods = new TreeSet<>();
        for (Method method : CorridorPlan.class.getDeclaredMethods()) {
            if (Modifier.isPublic(method.getModifiers())) {
                methods.add(method.getName() + " with " + method.getParameterCount());
            }
        }
        Set<String> told = new TreeSet<>();
        for (String line : readme) {
            if (line.matches("\\| `[a-z]\\w*\\(.*")) {
                String arguments = line.substring(line.indexOf('(') + 1, line.indexOf(')'));
                int count = arguments.isEmpty() ? 0 : arguments.split(",").length;
                told.add(line.substring(3, line.indexOf('(')) + " with " + count);
            }
        }
        CHECKS.same("the calls in the table of README.md", methods, told);
    }
}
