import java.util.Arrays;

/** Counts the answers that are not as due, and tells each of them. */
final class Due {
    interface Call {
        Object answer();
    }

    private static final int MOST_TOLD = 40;
    private static int wrong = 0;
    private static int asked = 0;

    private Due() {
    }

    static void answer(String what, Object got, Object due) {
        asked++;
        if (!due.equals(got)) {
            wrong++;
            if (wrong <= MOST_TOLD) {
                System.out.println(what + " answered " + got + ", due is " + due);
            }
        }
    }

    static void list(String what, int[] got, int... due) {
        answer(what, Arrays.toString(got), Arrays.toString(due));
    }

    /** What the call answers, or the exact class of what it throws: a class below it is not as due. */
    static Object outcome(Call call) {
        try {
            return call.answer();
        } catch (RuntimeException e) {
            return e.getClass();
        }
    }

    static void end(String test) {
        System.out.println(test + ": " + asked + " answers, " + wrong + " not as due");
        if (wrong != 0 || asked == 0) {
            System.exit(1);
        }
    }
}
