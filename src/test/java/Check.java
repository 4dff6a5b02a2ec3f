/** Compares answers with those that are due, prints each wrong one, and ends the test. */
final class Check {
    /** A call whose answer, or whose exception, is looked at. */
    interface Call {
        long answer();
    }

    private static String sentence = "";
    private static int right = 0;
    private static int wrong = 0;

    private Check() {
    }

    /** The document's own words that the checks from here on look at. */
    static void sentence(String words) {
        sentence = "[" + words + "] ";
    }

    static void same(String what, long got, long due) {
        if (got == due) {
            right++;
        } else {
            isWrong(what + " answered " + got + ", due is " + due);
        }
    }

    static void isTrue(String what, boolean holds) {
        same(what, holds ? 1 : 0, 1);
    }

    static void throwsExactly(String what, Class<? extends RuntimeException> due, Call call) {
        try {
            long got = call.answer();
            isWrong(what + " answered " + got + ", due is " + due.getSimpleName());
        } catch (RuntimeException e) {
            isTrue(what + " threw " + e + ", due is " + due.getSimpleName(), e.getClass() == due);
        }
    }

    static void end() {
        System.out.println(right + " answers right, " + wrong + " wrong");
        if (wrong != 0 || right == 0) {
            System.exit(1);
        }
    }

    private static void isWrong(String text) {
        wrong++;
        System.out.println(sentence + text);
    }
}
