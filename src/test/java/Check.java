import java.util.NoSuchElementException;
import java.util.function.IntSupplier;

/** Compares answers with those that are due, and ends the program with 1 if one was not. */
final class Check {
    static final Class<?> NO_INDEX = IndexOutOfBoundsException.class;
    static final Class<?> BAD_ARGUMENT = IllegalArgumentException.class;
    static final Class<?> BAD_STATE = IllegalStateException.class;
    static final Class<?> NO_ELEMENT = NoSuchElementException.class;

    private final String test;
    private String sentence = "";
    private int compared;
    private int comparedBeforeSentence;
    private int wrong;

    Check(String test) {
        this.test = test;
    }

    /** What is compared from here on tests this promise by these words of the document. */
    void promise(int number, String words) {
        needComparisons();
        sentence = "promise " + number + ", '" + words + "': ";
        comparedBeforeSentence = compared;
    }

    void is(String what, int due, int got) {
        compare(what, String.valueOf(due), String.valueOf(got));
    }

    void is(String what, boolean due, boolean got) {
        compare(what, String.valueOf(due), String.valueOf(got));
    }

    /** The class must be the very one: what the machine throws is often of a class below it. */
    void refuses(String what, Class<?> due, IntSupplier call) {
        compare(what, due.getName(), outcome(call));
    }

    void compare(String what, String due, String got) {
        compared++;
        if (!due.equals(got)) {
            wrong++;
            System.out.println(test + ": " + sentence + what + " answered " + got + ", due is " + due);
        }
    }

    static String outcome(IntSupplier call) {
        try {
            return String.valueOf(call.getAsInt());
        } catch (RuntimeException e) {
            return e.getClass().getName();
        }
    }

    static boolean isAnswer(String outcome) {
        return !outcome.startsWith("java.");
    }

    void close() {
        needComparisons();
        System.out.println(test + ": " + compared + " answers, " + wrong + " wrong");
        if (wrong > 0 || compared == 0) {
            System.exit(1);
        }
    }

    /** A sentence without a comparison would look tested and be not. */
    private void needComparisons() {
        if (!sentence.isEmpty() && compared == comparedBeforeSentence) {
            wrong++;
            System.out.println(test + ": " + sentence + "nothing was compared");
        }
    }
}
