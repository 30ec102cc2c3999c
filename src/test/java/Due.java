/** Compares answers with those that are due, prints each that is not, and ends a test. */
final class Due {
    private static int wrong = 0;

    private Due() {
    }

    static void is(String what, int got, int want) {
        if (got != want) {
            wrong++;
            System.out.println(what + " answered " + got + ", due is " + want);
        }
    }

    static void holds(String what, boolean got) {
        if (!got) {
            wrong++;
            System.out.println(what + " does not hold");
        }
    }

    /** Several answers at once, told in one text so that a fault shows where it stands. */
    static void row(String what, int[] got, int... want) {
        if (!java.util.Arrays.equals(got, want)) {
            wrong++;
            System.out.println(what + " answered " + java.util.Arrays.toString(got)
                    + ", due is " + java.util.Arrays.toString(want));
        }
    }

    static int wrongs() {
        return wrong;
    }

    static void end() {
        System.out.println(wrong == 0 ? "all answers are as due" : wrong + " answers are not as due");
        if (wrong != 0) {
            System.exit(1);
        }
    }
}
