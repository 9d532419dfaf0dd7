import java.util.NoSuchElementException;
import java.util.function.IntSupplier;

/** Compares answers with those that are due, and ends the program with 1 if one was not. */
final class Check {
    static final Class<?> NO_INDEX = IndexOutOfBoundsException.class;
    static final Class<?> BAD_ARGUMENT = IllegalArgumentException.class;
    static final Class<?> BAD_STATE = IllegalStateException.class;
    static final Class<?> NO_ELEMENT = NoSuchElementException.class;

    private final String test;
    private int compared;
    private int wrong;

    Check(String test) {
        this.test = test;
    }

    void is(String what, int due, int got) {
        compare(what, String.valueOf(due), String.valueOf(got));
    }

    void is(String what, boolean due, boolean got) {
        compare(what, String.valueOf(due), String.valueOf(got));
    }

    /** The class must be the very one: what the machine throws is often of a class below it. */
    void refuses(String what, Class<?> due, IntSupplier call) {
        compare(what, due.getName(), outcome(call));
    }

    void compare(String what, String due, String got) {
        compared++;
        if (!due.equals(got)) {
            wrong++;
            System.out.println(test + ": " + what + " answered " + got + ", due is " + due);
        }
    }

    static String outcome(IntSupplier call) {
        try {
            return String.valueOf(call.getAsInt());
        } catch (RuntimeException e) {
            return e.getClass().getName();
        }
    }

    void close() {
        System.out.println(test + ": " + compared + " answers, " + wrong + " wrong");
        if (wrong > 0 || compared == 0) {
            System.exit(1);
        }
    }
}
