import java.io.IOException;
import java.lang.reflect.InvocationTargetException;
import java.lang.reflect.Method;
import java.lang.reflect.Modifier;
import java.nio.file.Files;
import java.nio.file.Path;
import java.util.Arrays;
import java.util.List;
import java.util.regex.Matcher;
import java.util.regex.Pattern;

/** The calls shown in README.md answer what stands behind them, and each call of the face is told there. */
public final class ReadmeTest {
    private static final Path README = Path.of("README.md");
    private static final Pattern NEW = Pattern.compile("CubeSlices cube = new CubeSlices\\(\\);.*");
    private static final Pattern TEXT =
            Pattern.compile("for \\(char sign : \"(.+)\"\\.toCharArray\\(\\)\\) \\{ cube\\.append\\(sign\\); \\}");
    private static final Pattern CALL =
            Pattern.compile("cube\\.(\\w+)\\(((?:-?\\d+(?:, -?\\d+)*)?)\\); +// (throws \\w+|-?\\d+)(:.*)?");
    private static final int LEAST_CALLS_SHOWN = 10;

    private static CubeSlices cube;
    private static int shown = 0;

    public static void main(String[] args) throws IOException {
        List<String> lines = Files.readAllLines(README);
        boolean isCode = false;
        for (String line : lines) {
            if (line.startsWith("```")) {
                isCode = line.equals("```java");
            } else if (isCode) {
                run(line);
            }
        }
        Check.isTrue("README.md shows calls", shown >= LEAST_CALLS_SHOWN);
        for (Method method : CubeSlices.class.getDeclaredMethods()) {
            if (Modifier.isPublic(method.getModifiers())) {
                tellsOf(method, lines);
            }
        }
        Check.end();
    }

    /** A row of the table, with just so many arguments. */
    private static void tellsOf(Method method, List<String> lines) {
        String arguments = "\\w+(, \\w+){" + (method.getParameterCount() - 1) + "}";
        String call = method.getName() + "\\(" + (method.getParameterCount() == 0 ? "" : arguments) + "\\)";
        Pattern row = Pattern.compile("\\| `" + call + "` \\|.*");
        Check.isTrue("a row for " + method.getName(), lines.stream().anyMatch(line -> row.matcher(line).matches()));
    }

    private static void run(String line) {
        Matcher text = TEXT.matcher(line);
        Matcher call = CALL.matcher(line);
        if (NEW.matcher(line).matches()) {
            cube = new CubeSlices();
        } else if (text.matches()) {
            text.group(1).chars().forEach(cube::append);
        } else if (call.matches()) {
            shown++;
            String got = answer(call.group(1), call.group(2));
            Check.isTrue("\"" + line + "\", which answered " + got + ",", got.equals(call.group(3)));
        } else {
            Check.isTrue("a call that this test can read: " + line, false);
        }
    }

    private static String answer(String name, String listed) {
        Object[] arguments = listed.isEmpty() ? new Object[0]
                : Arrays.stream(listed.split(", ")).map(Integer::valueOf).toArray();
        Class<?>[] kinds = new Class<?>[arguments.length];
        Arrays.fill(kinds, int.class);
        try {
            return String.valueOf(CubeSlices.class.getMethod(name, kinds).invoke(cube, arguments));
        } catch (InvocationTargetException e) {
            return "throws " + e.getCause().getClass().getSimpleName();
        } catch (ReflectiveOperationException e) {
            return "can't be called: " + e;
        }
    }
}
