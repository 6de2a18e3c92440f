import java.lang.reflect.InvocationTargetException;
import java.lang.reflect.Method;
import java.util.ArrayList;
import java.util.Comparator;
import java.util.List;

/** What the tests share: each wrong answer is printed, and the exit code tells if there was one. */
final class Check {
    private static String test = "";
    private static int wrong = 0;

    private Check() {
    }

    interface Call {
        void run();
    }

    static void same(String call, long got, long due) {
        if (got != due) {
            fault(call + " answered " + got + ", due is " + due);
        }
    }

    static void sameShare(String call, double got, double due) {
        same(call + " (bits)", Double.doubleToLongBits(got), Double.doubleToLongBits(due));
    }

    static void isTrue(String what, boolean held) {
        if (!held) {
            fault(what + " does not hold");
        }
    }

    static void noSuchIndex(CubeSlices cube, String call, Call run) {
        refused(cube, call, IndexOutOfBoundsException.class, run);
    }

    static void wrongArgument(CubeSlices cube, String call, Call run) {
        refused(cube, call, IllegalArgumentException.class, run);
    }

    static void wrongState(CubeSlices cube, String call, Call run) {
        refused(cube, call, IllegalStateException.class, run);
    }

    /** The call throws just this exception, and changes nothing. */
    private static void refused(CubeSlices cube, String call, Class<?> due, Call run) {
        long before = cube.digest();
        Class<?> got = null;
        try {
            run.run();
        } catch (RuntimeException e) {
            got = e.getClass();
        }
        if (got != due) {
            fault(call + " threw " + got + ", due is " + due);
        }
        same(call + ": the digest behind the exception", cube.digest(), before);
    }

    /** Just outside a range, and as far outside as can be. */
    static int[] outside(int least, int most) {
        return new int[] {least - 1, most + 1, Integer.MIN_VALUE, Integer.MAX_VALUE};
    }

    static List<Method> testsOf(Class<?> tests) {
        List<Method> found = new ArrayList<>();
        for (Method method : tests.getDeclaredMethods()) {
            if (method.isAnnotationPresent(Sentence.class)) {
                found.add(method);
            }
        }
        found.sort(Comparator.comparing(Method::getName));
        return found;
    }

    /** Runs each test of a class that stands for a sentence, and ends. */
    static void sentences(Class<?> tests) {
        int passed = 0;
        int failed = 0;
        for (Method method : testsOf(tests)) {
            int before = wrong;
            Sentence sentence = method.getAnnotation(Sentence.class);
            test = sentence.of() + ", \"" + sentence.says()[0] + "\", " + method.getName() + ": ";
            runTest(method);
            passed += wrong == before ? 1 : 0;
            failed += wrong == before ? 0 : 1;
        }
        System.out.println(tests.getName() + ": " + passed + " passed, " + failed + " failed");
        if (failed != 0 || passed == 0) {
            System.exit(1);
        }
    }

    private static void runTest(Method method) {
        try {
            method.setAccessible(true);
            method.invoke(null);
        } catch (InvocationTargetException e) {
            fault("threw " + e.getCause() + " at " + e.getCause().getStackTrace()[0]);
        } catch (IllegalAccessException e) {
            fault("can't be run: " + e);
        }
    }

    private static void fault(String what) {
        wrong++;
        System.out.println(test + what);
    }

    static void end() {
        System.out.println(wrong == 0 ? "all answers are as due" : wrong + " answers are not as due");
        if (wrong != 0) {
            System.exit(1);
        }
    }
}
