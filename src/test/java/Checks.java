/** What the tests have in common: the answers looked at are counted, and those that are not due are told. */
abstract class Checks {
    static final Class<?> INDEX = IndexOutOfBoundsException.class;
    static final Class<?> ARGUMENT = IllegalArgumentException.class;
    static final Class<?> STATE = IllegalStateException.class;
    static final int[] NO_DEVICES = {-1, 6, Integer.MIN_VALUE, Integer.MAX_VALUE};
    static final int[] NO_FIELDS = {-1, 4, Integer.MIN_VALUE, Integer.MAX_VALUE};
    static final int[] NO_PERSONS = {-1, 3, Integer.MIN_VALUE, Integer.MAX_VALUE};
    static final int[] NO_VALUES = {-2, 1000, Integer.MIN_VALUE, Integer.MAX_VALUE};
    static final int[] NO_SETS = {-1, 16, Integer.MIN_VALUE, Integer.MAX_VALUE};
    static final int[] NO_MONTHS = {0, 25, -1, Integer.MIN_VALUE, Integer.MAX_VALUE};

    private static int checked;
    private static int wrong;
    private static String sentence = "";

    interface Call {
        double answer();
    }

    /** What is looked at from here on; it is told with each wrong answer. */
    static void sentence(String text) {
        sentence = text;
    }

    static void due(String what, double want, double got) {
        if (want == got) {
            checked++;
        } else {
            tellWrong(what, String.valueOf(want), String.valueOf(got));
        }
    }

    static void dueText(String what, String want, String got) {
        if (want.equals(got)) {
            checked++;
        } else {
            tellWrong(what, want, got);
        }
    }

    static void dueThrow(String what, Class<?> want, Call call) {
        dueText(what, "throws " + want.getName(), got(call));
    }

    /**
     * What a caller gets: the answer, or the exception. Its very class is told, since the machine's
     * own exceptions extend the document's.
     */
    static String got(Call call) {
        try {
            return String.valueOf(call.answer());
        } catch (RuntimeException e) {
            return "throws " + e.getClass().getName();
        }
    }

    private static void tellWrong(String what, String want, String got) {
        checked++;
        wrong++;
        System.out.println(sentence + ": " + what + ": due is " + want + ", got " + got);
    }

    static void end() {
        System.out.println(checked + " answers looked at, " + wrong + " wrong");
        if (wrong != 0) System.exit(1);
    }
}
