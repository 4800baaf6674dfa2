import java.util.NoSuchElementException;

/** Counts the answers that are not the due ones, and names them. */
final class Check {
    static final Class<IndexOutOfBoundsException> INDEX = IndexOutOfBoundsException.class;
    static final Class<IllegalArgumentException> ARGUMENT = IllegalArgumentException.class;
    static final Class<IllegalStateException> STATE = IllegalStateException.class;
    static final Class<NoSuchElementException> NO_ELEMENT = NoSuchElementException.class;

    private static final int MOST_TOLD = 50;
    private static int wrong = 0;
    private static int asked = 0;

    interface Call {
        Object on(WordConcordance x);
    }

    private Check() {
    }

    static void is(String what, Object got, Object due) {
        asked++;
        if (!due.equals(got)) {
            wrong++;
            if (wrong <= MOST_TOLD) {
                System.out.println(what + " is " + got + ", due is " + due);
            }
        }
    }

    /** What the call answers, or the name of the exception that it throws. */
    static Object answer(WordConcordance x, Call call) {
        try {
            return call.on(x);
        } catch (RuntimeException thrown) {
            return thrown.getClass().getName();
        }
    }

    static void end() {
        System.out.println(wrong == 0 ? asked + " answers as due" : wrong + " of " + asked + " answers are not as due");
        if (wrong != 0) {
            System.exit(1);
        }
    }
}
