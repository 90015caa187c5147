import java.lang.reflect.Constructor;
import java.lang.reflect.Field;
import java.lang.reflect.Method;
import java.lang.reflect.Modifier;
import java.util.Arrays;
import java.util.Set;
import java.util.TreeSet;

/** The face of the class: every member that the document names, with its throws clause, and no other one. */
public final class FaceTest {
    private static final String[] METHODS = {
        "int room(int, int, int, int) IllegalArgumentException IllegalStateException",
        "int give(int) IndexOutOfBoundsException",
        "int walk(int, int, int) IndexOutOfBoundsException IllegalArgumentException",
        "int dig(int, int) IllegalArgumentException IllegalStateException",
        "int carve(int, int) IndexOutOfBoundsException IllegalArgumentException IllegalStateException",
        "int carveAll()",
        "int fillUp()",
        "int set(int) IllegalArgumentException",
        "int append(int) IllegalArgumentException IllegalStateException",
        "int clearBuffer()",
        "int firstError()",
        "int run() IllegalArgumentException",
        "int undo() IllegalStateException",
        "int square(int, int, int) IllegalArgumentException",
        "int chamber(int, int) IndexOutOfBoundsException IllegalArgumentException",
        "int way(int, int, int) IndexOutOfBoundsException IllegalArgumentException",
        "int count(int) IllegalArgumentException",
        "int ifDug(int, int, int) IllegalArgumentException",
        "int ifGiven(int) IndexOutOfBoundsException",
        "int allCost()",
        "double openShare()",
        "long digest()",
    };

    public static void main(String[] arguments) {
        Checks checks = new Checks("FaceTest");
        checks.promise("the public face");
        checks.same("the class", Modifier.PUBLIC | Modifier.FINAL, CorridorPlan.class.getModifiers());
        checks.same("its methods", new TreeSet<>(Arrays.asList(METHODS)), methods());
        checks.same("its fields", Set.of("public static final int NONE"), fields());
        Constructor<?>[] constructors = CorridorPlan.class.getDeclaredConstructors();
        checks.same("its constructors", "[public CorridorPlan()]", Arrays.toString(constructors));
        for (Class<?> inside : CorridorPlan.class.getDeclaredClasses()) {
            int modifiers = inside.getModifiers();
            checks.same(inside + " is static, not public or protected", Modifier.STATIC,
                    modifiers & (Modifier.STATIC | Modifier.PUBLIC | Modifier.PROTECTED));
        }
        checks.same("names that are told twice", Set.of(), namesToldTwice());
        checks.end();
    }

    /** The language's rules leave no name of the face to a private method. */
    private static Set<String> namesToldTwice() {
        Set<String> face = new TreeSet<>();
        Set<String> others = new TreeSet<>();
        for (Method method : CorridorPlan.class.getDeclaredMethods()) {
            (Modifier.isPublic(method.getModifiers()) ? face : others).add(method.getName());
        }
        for (Class<?> inside : CorridorPlan.class.getDeclaredClasses()) {
            for (Method method : inside.getDeclaredMethods()) {
                others.add(method.getName());
            }
        }
        others.retainAll(face);
        return others;
    }

    private static Set<String> methods() {
        Set<String> methods = new TreeSet<>();
        for (Method method : CorridorPlan.class.getDeclaredMethods()) {
            if (Modifier.isPrivate(method.getModifiers())) {
                continue;
            }
            StringBuilder told = new StringBuilder(Modifier.isPublic(method.getModifiers()) ? "" : "not public: ");
            told.append(method.getReturnType()).append(' ').append(method.getName());
            told.append(Arrays.toString(method.getParameterTypes()).replace('[', '(').replace(']', ')'));
            for (Class<?> thrown : method.getExceptionTypes()) {
                told.append(' ').append(thrown.getSimpleName());
            }
            methods.add(told.toString());
        }
        return methods;
    }

    private static Set<String> fields() {
        Set<String> fields = new TreeSet<>();
        for (Field field : CorridorPlan.class.getDeclaredFields()) {
            if (!Modifier.isPrivate(field.getModifiers())) {
                fields.add(Modifier.toString(field.getModifiers()) + " " + field.getType() + " " + field.getName());
            }
        }
        return fields;
    }
}
