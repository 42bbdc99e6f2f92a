import java.lang.reflect.InvocationTargetException;
import java.lang.reflect.Method;
import java.nio.file.Files;
import java.nio.file.Path;
import java.util.regex.Matcher;
import java.util.regex.Pattern;

/** The run of calls that README.md shows: each call answers what stands behind it there. */
public final class ReadmeTest extends Checks {
    private static final Pattern CALL = Pattern.compile("box\\.(\\w+)\\((.*)\\); +// (throws )?([\\w-]+): .+");
    private static final int LEAST_CALLS = 20;

    public static void main(String[] args) throws Exception {
        about("README.md");
        ClawBoxes box = new ClawBoxes();
        boolean inside = false;
        int calls = 0;
        for (String line : Files.readAllLines(Path.of("README.md"))) {
            if (line.startsWith("```")) {
                inside = line.equals("```java");
            } else if (inside && line.startsWith("box.")) {
                Matcher told = CALL.matcher(line);
                due("'" + line + "' tells an answer: 1", told.matches() ? 1 : 0, 1);
                calls += told.matches() && asTold(box, told) ? 1 : 0;
            }
        }
        due("at least " + LEAST_CALLS + " calls are shown: 1", calls >= LEAST_CALLS ? 1 : 0, 1);
        end();
    }

    private static boolean asTold(ClawBoxes box, Matcher told) throws Exception {
        String got = answer(box, told.group(1), told.group(2).isEmpty() ? new String[0] : told.group(2).split(", "));
        String want = told.group(4);
        due(told.group() + " (got " + got + "): 1", got.equals(want) ? 1 : 0, 1);
        return got.equals(want);
    }

    private static String answer(ClawBoxes box, String name, String[] told) throws Exception {
        for (Method m : ClawBoxes.class.getMethods()) {
            if (m.getDeclaringClass() == ClawBoxes.class && m.getName().equals(name) && m.getParameterCount() == told.length) {
                Object[] values = new Object[told.length];
                for (int i = 0; i < told.length; i++) {
                    boolean truth = m.getParameterTypes()[i] == boolean.class;
                    values[i] = truth ? (Object) told[i].equals("true") : (Object) Long.decode(told[i]).intValue();
                }
                try {
                    return String.valueOf(m.invoke(box, values));
                } catch (InvocationTargetException e) {
                    return e.getCause().getClass().getSimpleName();
                }
            }
        }
        return "no such call";
    }
}
