import java.util.Arrays;

/** Compares what was answered with what is due, and ends a test with exit code 1 if anything differed. */
final class Due {
    private static int checks = 0;
    private static int wrong = 0;
    /** What is tested, told with each answer that is not as due. */
    private static String tested = "";

    private Due() {
    }

    static void test(String what) {
        tested = what + ": ";
    }

    static int checks() {
        return checks;
    }

    static int wrong() {
        return wrong;
    }

    static void is(String call, long got, long want) {
        checks++;
        if (got != want) {
            wrong++;
            System.out.println(tested + call + " answered " + got + ", due is " + want);
        }
    }

    static void hex(String call, int got, int want) {
        checks++;
        if (got != want) {
            wrong++;
            System.out.println(tested + call + " answered " + Integer.toHexString(got) + ", due is " + Integer.toHexString(want));
        }
    }

    static void are(String call, int[] got, int... want) {
        checks++;
        if (!Arrays.equals(got, want)) {
            wrong++;
            System.out.println(tested + call + " answered " + Arrays.toString(got) + ", due is " + Arrays.toString(want));
        }
    }

    static void end() {
        System.out.println(wrong == 0 ? checks + " answers are as due" : wrong + " answers are not as due");
        if (wrong != 0 || checks == 0) {
            System.exit(1);
        }
    }
}
