/** Counts the checks of a test, prints each that fails, and ends the test. */
final class Checks {
    /** A call of the face whose answer is a number (a boolean counts 1 or 0, void counts 0). */
    interface Call {
        long answer();
    }

    static final Class<? extends RuntimeException> INDEX = IndexOutOfBoundsException.class;
    static final Class<? extends RuntimeException> ARGUMENT = IllegalArgumentException.class;
    static final Class<? extends RuntimeException> STATE = IllegalStateException.class;

    private int made;
    private int wrong;
    private String part = "";

    void begin(String newPart) {
        part = newPart;
    }

    void isTrue(String what, boolean holds) {
        made++;
        if (!holds) {
            wrong++;
            System.out.println(part + ": not so: " + what);
        }
    }

    void is(String what, long want, long got) {
        isTrue(what + " answered " + got + ", due is " + want, got == want);
    }

    void is(String what, boolean want, boolean got) {
        isTrue(what + " answered " + got + ", due is " + want, got == want);
    }

    /** The exception's class has to be just the one that is due: a class below it is the machine's. */
    void throwsIt(String what, Class<? extends RuntimeException> want, Call call) {
        try {
            long got = call.answer();
            isTrue(what + " answered " + got + ", due is " + want.getSimpleName(), false);
        } catch (RuntimeException e) {
            isTrue(what + " threw " + e + ", due is " + want.getSimpleName(), e.getClass() == want);
        }
    }

    /** The answer of a call as a text, or the exception that it throws. */
    static String answerOf(Call call) {
        try {
            return Long.toString(call.answer());
        } catch (RuntimeException e) {
            return "throws " + e.getClass().getSimpleName();
        }
    }

    void end() {
        System.out.println(made + " checks, " + wrong + " wrong");
        if (wrong != 0 || made == 0) {
            System.exit(1);
        }
    }
}
