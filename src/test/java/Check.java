/** What the tests share: each wrong answer is printed, and the exit code tells if there was one. */
final class Check {
    private static int wrong = 0;

    private Check() {
    }

    interface Call {
        void run();
    }

    static void same(String call, long got, long due) {
        if (got != due) {
            wrong++;
            System.out.println(call + " answered " + got + ", due is " + due);
        }
    }

    static void sameShare(String call, double got, double due) {
        same(call + " (bits)", Double.doubleToLongBits(got), Double.doubleToLongBits(due));
    }

    /** The call throws just this exception, and changes nothing. */
    static void fails(CubeSlices cube, String call, Class<?> due, Call run) {
        long before = cube.digest();
        Class<?> got = null;
        try {
            run.run();
        } catch (RuntimeException e) {
            got = e.getClass();
        }
        if (got != due) {
            wrong++;
            System.out.println(call + " threw " + got + ", due is " + due);
        }
        same(call + ": digest behind the exception", cube.digest(), before);
    }

    static void end() {
        System.out.println(wrong == 0 ? "all answers are as due" : wrong + " answers are not as due");
        if (wrong != 0) {
            System.exit(1);
        }
    }
}
