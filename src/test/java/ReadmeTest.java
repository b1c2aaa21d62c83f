import java.lang.reflect.InvocationTargetException;
import java.lang.reflect.Method;
import java.nio.file.Files;
import java.nio.file.Path;
import java.util.regex.Matcher;
import java.util.regex.Pattern;

/**
 * The calls in README.md, all on one object, with the numbers that stand beside them. It is read
 * from the project's directory, where .ci/run starts the tests.
 */
public final class ReadmeTest extends Checks {
    private static final Pattern CALL =
            Pattern.compile("piece\\.(\\w+)\\(([^)]*)\\);\\s*(?://\\s*(-?\\d+)?.*)?");

    public static void main(String[] args) throws Exception {
        FiguredBass piece = new FiguredBass();
        int told = 0;
        about("README.md");
        for (String line : Files.readAllLines(Path.of("README.md"))) {
            Matcher call = CALL.matcher(line);
            if (call.matches()) {
                Object got = invoke(piece, call.group(1), call.group(2));
                // A call without a number beside it answers nothing.
                due(line, call.group(3), got);
                told += call.group(3) == null ? 0 : 1;
            } else {
                due("is a call that was not understood: " + line, false,
                        line.startsWith("piece."));
            }
        }
        due("answers that are told", 21, told);
        finish("README.md is right");
    }

    private static Object invoke(FiguredBass piece, String name, String arguments)
            throws IllegalAccessException {
        String[] parts = arguments.isEmpty() ? new String[0] : arguments.split(", ");
        for (Method method : FiguredBass.class.getMethods()) {
            if (method.getName().equals(name) && method.getParameterCount() == parts.length) {
                try {
                    return method.invoke(piece, values(method, parts));
                } catch (InvocationTargetException e) {
                    return "throws." + e.getCause().getClass().getSimpleName();
                }
            }
        }
        return "no such call";
    }

    private static Object[] values(Method method, String[] parts) {
        Object[] values = new Object[parts.length];
        for (int i = 0; i < parts.length; i++) {
            boolean truth = method.getParameterTypes()[i] == boolean.class;
            values[i] = truth ? (Object) Boolean.valueOf(parts[i]) : Integer.valueOf(parts[i]);
        }
        return values;
    }
}
