import java.lang.reflect.Field;
import java.lang.reflect.Method;
import java.lang.reflect.Modifier;
import java.util.Arrays;
import java.util.Set;
import java.util.TreeSet;

/** The public face: the document's members with their parameters and exceptions, and no other that is not private. */
public final class FaceTest extends Checks {
    private static final String E = "NoSuchElementException";
    private static final String I = "IndexOutOfBoundsException";
    private static final String A = "IllegalArgumentException";

    private static final String[] FACE = {
        "int lay(int, int, int, int) " + I + " " + A, "boolean wire(int, boolean) " + E, "int key(int) " + E,
        "int thing(int, int) " + E + " " + A, "int top(int, boolean) " + I, "int hole(int) " + I + " " + A, "int set(int, int) " + A,
        "int seed(int)", "int feed(int, int, int, int, int)", "int program(int, boolean) " + A, "int fault()", "int force(int) " + A,
        "int tells(int, int) " + A, "int attempt(int) " + I, "int record(int, int) " + E + " " + A, "int hand(int) " + A,
        "int play(int, int) " + E + " " + I, "int can(boolean)", "int odds(int, int, int) " + E + " " + I + " " + A,
        "int weights(int) " + E, "int when(int, int) " + I + " " + A, "int fitting()", "int strange(int) " + A, "int guess(int) " + I,
        "int refill()", "int worth(int, int, int) " + I + " " + A, "int bide(int, int) " + I,
        "int settle(int, int, int) " + E + " " + I + " " + A, "int back(int, int) " + E + " " + I, "int broken(int) " + E,
        "int cut(int, int, int, int, int) " + E + " " + A, "int player(int, int, int, int) " + I + " " + A, "int fair(int) " + A,
        "int image()", "int restore()", "int count(int)"};

    private static String names(Class<?>[] classes, String between) {
        return String.join(between, Arrays.stream(classes).map(Class::getSimpleName).toList());
    }

    public static void main(String[] args) {
        about("The public face");
        Set<String> found = new TreeSet<>();
        Set<String> hidden = new TreeSet<>();
        for (Method m : ClawBoxes.class.getDeclaredMethods()) {
            String told = m.getReturnType() + " " + m.getName() + "(" + names(m.getParameterTypes(), ", ") + ") "
                    + names(m.getExceptionTypes(), " ");
            if (Modifier.isPrivate(m.getModifiers())) {
                hidden.add(m.getName());
            } else {
                found.add(told.trim());
            }
        }
        Set<String> want = new TreeSet<>(Arrays.asList(FACE));
        due("the methods are " + found + ", due are " + want + ": 1", found.equals(want) ? 1 : 0, 1);
        for (String told : want) {
            String name = told.substring(told.indexOf(' ') + 1, told.indexOf('('));
            due("a private method is called " + name + ": 0", hidden.contains(name) ? 1 : 0, 0);
        }
        for (Field f : ClawBoxes.class.getDeclaredFields()) {
            boolean none = f.getName().equals("NONE");
            int modifiers = none ? Modifier.PUBLIC | Modifier.STATIC | Modifier.FINAL : f.getModifiers() | Modifier.PRIVATE;
            due("modifiers of " + f.getName(), f.getModifiers(), modifiers);
        }
        due("NONE", NONE, -1);
        due("one constructor", ClawBoxes.class.getDeclaredConstructors().length, 1);
        due("it is public", ClawBoxes.class.getConstructors().length, 1);
        due("public and final", ClawBoxes.class.getModifiers(), Modifier.PUBLIC | Modifier.FINAL);
        for (Class<?> inside : ClawBoxes.class.getDeclaredClasses()) {
            due(inside.getSimpleName() + " is static: 1", Modifier.isStatic(inside.getModifiers()) ? 1 : 0, 1);
            due(inside.getSimpleName() + " is public: 0", Modifier.isPublic(inside.getModifiers()) ? 1 : 0, 0);
        }
        end();
    }
}
