import java.io.IOException;
import java.lang.reflect.InvocationTargetException;
import java.lang.reflect.Method;
import java.lang.reflect.Modifier;
import java.nio.file.Files;
import java.nio.file.Path;
import java.util.Arrays;
import java.util.Set;
import java.util.TreeSet;
import java.util.regex.Matcher;
import java.util.regex.Pattern;

/** Makes the calls that README.md shows, one behind the other, and looks whether they answer what it says. */
public final class ReadmeTest {
    /** A call's name, its numbers, and its answer up to a colon. */
    private static final Pattern CALL =
            Pattern.compile("namer\\.(\\w+)\\(([-\\d, ]+)\\); +// ((?:throws )?[-\\w]+)(?::.*)?");
    private static final Checks CHECKS = new Checks();

    public static void main(String[] args) throws IOException {
        GraphNamer namer = new GraphNamer();
        Set<String> shown = new TreeSet<>();
        for (String line : Files.readAllLines(Path.of("README.md"))) {
            if (line.startsWith("namer.")) {
                shown.add(make(namer, line));
            }
        }
        CHECKS.due("the calls that README.md shows", face(), shown);
        CHECKS.end();
    }

    /** Makes a line's call, and tells the call's name. */
    private static String make(GraphNamer namer, String line) {
        Matcher call = CALL.matcher(line);
        if (!call.matches()) {
            throw new AssertionError("README.md shows a call that can't be read: " + line);
        }
        CHECKS.due(line, call.group(3), answer(namer, call.group(1), numbers(call.group(2))));
        return call.group(1);
    }

    private static Object[] numbers(String written) {
        return Arrays.stream(written.split(", ")).map(Integer::valueOf).toArray();
    }

    private static String answer(GraphNamer namer, String name, Object[] numbers) {
        try {
            return String.valueOf(methodOf(name).invoke(namer, numbers));
        } catch (InvocationTargetException e) {
            return "throws " + e.getCause().getClass().getSimpleName();
        } catch (IllegalAccessException e) {
            return "can't be called";
        }
    }

    private static Method methodOf(String name) {
        for (Method method : GraphNamer.class.getDeclaredMethods()) {
            if (method.getName().equals(name) && Modifier.isPublic(method.getModifiers())) {
                return method;
            }
        }
        throw new AssertionError("README.md shows a call that isn't there: " + name);
    }

    private static Set<String> face() {
        Set<String> names = new TreeSet<>();
        for (Method method : GraphNamer.class.getDeclaredMethods()) {
            if (Modifier.isPublic(method.getModifiers())) {
                names.add(method.getName());
            }
        }
        return names;
    }
}
