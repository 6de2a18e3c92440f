import java.lang.reflect.InvocationTargetException;
import java.lang.reflect.Method;
import java.util.Arrays;

/** Runs of calls, drawn by a fixed rule, on the class and on the model: every answer and exception is the same. */
public final class ModelTest {
    private static final int RUNS = 150;
    private static final int CALLS = 512;
    /** The methods, each with the kinds of its arguments, as often as they are to be drawn. */
    private static final String[] CALLS_TO_DRAW = {
        "begin side", "put k k k number", "put k k k number", "put k k k number", "put k k k number",
        "put k k k number", "put k k k number", "put k k k number", "add k k k size number", "add k k k size number",
        "add k k k size number", "wipe axis k", "shift axis", "turn", "keep axis", "mark", "goBack", "set setting",
        "append code", "clearBuffer", "firstError", "read", "undo", "undo", "undo", "at k k k", "line axis k k",
        "slice axis k what", "slice axis k what", "ordered rank what", "ordered rank what", "difference what",
        "count what", "count what", "ifKept axis", "ifPut k k k number what", "ifPut k k k number what", "best what",
        "heaviest what", "digest", "text", "text", "text"
    };
    private static final String SIGNS = "0000111223378=+-;;9x ";

    private long seed;
    private int calls;
    private final int run;
    private final CubeSlices cube = new CubeSlices();
    private final Model model = new Model();

    private ModelTest(int run) {
        this.run = run;
        seed = 77L * run + 5;
    }

    public static void main(String[] args) throws ReflectiveOperationException {
        for (int run = 0; run < RUNS; run++) {
            new ModelTest(run).meetAll();
        }
        Check.end();
    }

    private int draw(int most) {
        seed = seed * 6364136223846793005L + 1442695040888963407L;
        return (int) ((seed >>> 33) % most);
    }

    private int among(int... values) {
        return values[draw(values.length)];
    }

    private void meetAll() throws ReflectiveOperationException {
        while (calls < CALLS - 70) {
            String[] words = CALLS_TO_DRAW[draw(CALLS_TO_DRAW.length)].split(" ");
            // Few runs begin again often: a cube wants time to fill.
            if (words[0].equals("text")) {
                meetText();
            } else if (!words[0].equals("begin") || draw(5) == 0 || calls < 5) {
                Object[] arguments = new Object[words.length - 1];
                for (int i = 0; i < arguments.length; i++) {
                    arguments[i] = argument(words[i + 1]);
                }
                meet(words[0], arguments);
            }
        }
        meet("digest");
        Check.sameShare("run " + run + ": roomShare", cube.roomShare(), model.roomShare());
    }

    private int argument(String kind) {
        if (draw(50) == 0) {
            return among(-1, 9, 1000, -1000, 65, Integer.MIN_VALUE, Integer.MAX_VALUE);
        }
        switch (kind) {
            case "side":
                return 1 + draw(9);
            case "k":
                return draw(20) == 0 ? draw(10) - 1 : draw(model.count(0));
            case "number":
                return draw(3) == 0 ? among(0, 0, 999, -999, draw(1999) - 999) : draw(41) - 20;
            case "size":
                // In odd runs the boxes are large, so that slices fill.
                return draw(8) == 0 ? draw(10) : 1 + draw(run % 2 == 0 ? 3 : model.count(0));
            case "axis":
                return draw(3);
            case "setting":
                return draw(3) == 0 || run % 2 == 1 ? draw(66) : 1 + draw(6);
            case "code":
                return SIGNS.charAt(draw(SIGNS.length()));
            case "rank":
                return draw(draw(2) == 0 ? 5 : 60);
            default:
                return draw(9) == 0 ? draw(9) : draw(4);
        }
    }

    /** Tells points, most often without an error, sign by sign, and reads them. */
    private void meetText() throws ReflectiveOperationException {
        meet("clearBuffer");
        StringBuilder text = new StringBuilder();
        for (int points = 1 + draw(4); points > 0; points--) {
            int side = draw(9) == 0 ? 8 : model.count(0);
            text.append(draw(side)).append(draw(side)).append(draw(side)).append(draw(2) == 0 ? '=' : '+');
            text.append(draw(3) == 0 ? "-" : "").append(draw(3) == 0 ? draw(1000) : draw(30));
            text.append(points > 1 ? ";" : "");
        }
        if (draw(4) == 0) {
            text.setCharAt(draw(text.length()), SIGNS.charAt(draw(SIGNS.length())));
        }
        for (char sign : text.toString().toCharArray()) {
            meet("append", (int) sign);
        }
        meet("firstError");
        meet("read");
    }

    private void meet(String name, Object... arguments) throws ReflectiveOperationException {
        calls++;
        String got = answer(cube, name, arguments);
        String due = answer(model, name, arguments);
        if (!got.equals(due)) {
            System.out.println("run " + run + ": " + name + Arrays.toString(arguments) + ": " + got + ", not " + due);
        }
        Check.same("run " + run + ": call " + calls + " as the model", got.equals(due) ? 1 : 0, 1);
    }

    private static String answer(Object on, String name, Object[] arguments) throws ReflectiveOperationException {
        Class<?>[] kinds = new Class<?>[arguments.length];
        Arrays.fill(kinds, int.class);
        Method method = on.getClass().getDeclaredMethod(name, kinds);
        try {
            return String.valueOf(method.invoke(on, arguments));
        } catch (InvocationTargetException e) {
            return e.getCause().getClass().getName();
        }
    }
}
