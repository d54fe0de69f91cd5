/** Counts the answers that are as due and prints the others. */
final class Due {
    private static final int MOST_TOLD = 40;
    private static int right = 0;
    private static int wrong = 0;

    private Due() {
    }

    static void due(String call, long got, long want) {
        if (got == want) {
            right++;
            return;
        }
        wrong++;
        if (wrong <= MOST_TOLD) {
            System.out.println(call + " answered " + got + ", due is " + want);
        }
    }

    static void holds(String what, boolean isTrue) {
        due(what, isTrue ? 1 : 0, 1);
    }

    static int wrong() {
        return wrong;
    }

    static void end() {
        System.out.println(right + " answers as due, " + wrong + " not");
        // A test that asked nothing has shown nothing.
        System.exit(wrong == 0 && right > 0 ? 0 : 1);
    }
}
