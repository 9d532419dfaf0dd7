/** Promises 20 to 22: exceptions, left, excuse. */
public final class ExceptionsTest {
    private static final Check check = new Check("ExceptionsTest");
    private static final int[] NO_RANKS = {0, 4, -1, Integer.MIN_VALUE, Integer.MAX_VALUE};

    public static void main(String[] args) {
        promise20SetsNumbers();
        promise20RefusesWhatIsOutOfRange();
        promise21AnswersWhatIsLeft();
        promise22SpendsTheFreezesRank();
        promise22SpendsTheNextGreaterRank();
        promise22RefusesWhatIsNotThere();
        promise22RefusesWhatDoesNotTouch();
        promise22RefusesWhatIsExcused();
        promise22RefusesWithoutExceptions();
        promise22ExcusesInWhateverState();
        promise22LooksAtTheBeginning();
        check.close();
    }

    private static void checkLeft(FrostCalendar x, int first, int second, int third) {
        check.is("left(1)", first, x.left(1));
        check.is("left(2)", second, x.left(2));
        check.is("left(3)", third, x.left(3));
    }

    private static void promise20SetsNumbers() {
        FrostCalendar x = new FrostCalendar();
        check.is("exceptions(1, 50)", 0, x.exceptions(1, 50));
        check.is("exceptions(2, 7)", 0, x.exceptions(2, 7));
        check.is("exceptions(3, 1)", 0, x.exceptions(3, 1));
        checkLeft(x, 50, 7, 1);
        check.is("exceptions(1, 0)", 50, x.exceptions(1, 0));
        check.is("exceptions(1, 3)", 0, x.exceptions(1, 3));
        x.once(0, 0, 1, 1);
        x.plan(0, 0, 1, 1);
        x.excuse(0, 0);
        check.is("how many there were, without the spent one", 2, x.exceptions(1, 4));
        checkLeft(x, 4, 7, 1);
    }

    private static void promise20RefusesWhatIsOutOfRange() {
        FrostCalendar x = new FrostCalendar();
        for (int rank = 1; rank <= 3; rank++) {
            x.exceptions(rank, rank);
        }
        for (int rank : NO_RANKS) {
            check.refuses("exceptions(" + rank + ", 0)", Check.BAD_ARGUMENT, () -> x.exceptions(rank, 0));
        }
        for (int number : new int[] {-1, 51, Integer.MIN_VALUE, Integer.MAX_VALUE}) {
            check.refuses("exceptions(2, " + number + ")", Check.BAD_ARGUMENT, () -> x.exceptions(2, number));
        }
        checkLeft(x, 1, 2, 3);
    }

    private static void promise21AnswersWhatIsLeft() {
        FrostCalendar x = new FrostCalendar();
        checkLeft(x, 0, 0, 0);
        for (int rank : NO_RANKS) {
            check.refuses("left(" + rank + ")", Check.BAD_ARGUMENT, () -> x.left(rank));
        }
        x.exceptions(2, 2);
        checkLeft(x, 0, 2, 0);
        x.once(0, 0, 1, 2);
        x.plan(0, 0, 1, 1);
        x.excuse(0, 0);
        checkLeft(x, 0, 1, 0);
        x.lift(0);
        checkLeft(x, 0, 1, 0);
    }

    private static void promise22SpendsTheFreezesRank() {
        FrostCalendar x = new FrostCalendar();
        for (int rank = 1; rank <= 3; rank++) {
            x.exceptions(rank, 5);
            x.once(0, 0, 1, rank);
        }
        x.plan(0, 0, 1, 1);
        check.is("excuse(0, 1)", 2, x.excuse(0, 1));
        checkLeft(x, 5, 4, 5);
        check.is("excuse(0, 2)", 3, x.excuse(0, 2));
        checkLeft(x, 5, 4, 4);
        check.is("excuse(0, 0)", 1, x.excuse(0, 0));
        checkLeft(x, 4, 4, 4);
    }

    private static void promise22SpendsTheNextGreaterRank() {
        FrostCalendar x = new FrostCalendar();
        x.once(0, 0, 1, 1);
        x.once(0, 0, 1, 2);
        for (int change = 0; change < 4; change++) {
            x.plan(0, 0, 1, 1);
        }
        x.exceptions(1, 1);
        x.exceptions(2, 1);
        x.exceptions(3, 2);
        check.is("of its rank", 1, x.excuse(0, 0));
        check.is("of the next", 2, x.excuse(1, 0));
        check.is("of the one behind that", 3, x.excuse(2, 0));
        checkLeft(x, 0, 0, 1);
        x.exceptions(1, 5);
        check.is("never of a smaller one", 3, x.excuse(0, 1));
        checkLeft(x, 5, 0, 0);
        check.refuses("smaller ones do not help", Check.BAD_STATE, () -> x.excuse(1, 1));
        checkLeft(x, 5, 0, 0);
    }

    private static void promise22RefusesWhatIsNotThere() {
        FrostCalendar x = new FrostCalendar();
        x.exceptions(3, 50);
        x.once(0, 0, 1, 1);
        x.once(0, 0, 1, 1);
        x.lift(0);
        for (int change : new int[] {0, -1, 30, Integer.MIN_VALUE, Integer.MAX_VALUE}) {
            check.refuses("excuse(" + change + ", 1)", Check.NO_INDEX, () -> x.excuse(change, 1));
            check.refuses("excuse(" + change + ", 0)", Check.NO_INDEX, () -> x.excuse(change, 0));
        }
        x.plan(0, 0, 1, 1);
        for (int freeze : new int[] {0, 2, -1, 20, 33, Integer.MIN_VALUE, Integer.MAX_VALUE}) {
            check.refuses("excuse(0, " + freeze + ")", Check.NO_ELEMENT, () -> x.excuse(0, freeze));
        }
        x.excuse(0, 1);
        x.lift(1);
        check.refuses("excused, but lifted then", Check.NO_ELEMENT, () -> x.excuse(0, 1));
        checkLeft(x, 0, 0, 49);
    }

    private static void promise22RefusesWhatDoesNotTouch() {
        FrostCalendar x = new FrostCalendar();
        x.scope(0);
        x.scope(0);
        x.scope(1);
        x.exceptions(1, 9);
        x.once(1, 0, 1, 1);
        x.plan(2, 0, 1, 1);
        check.refuses("of a scope beside it", Check.BAD_STATE, () -> x.excuse(0, 0));
        checkLeft(x, 9, 0, 0);
        x.plan(3, 5, 1, 1);
        check.is("of a scope above, though no hour is bad", 1, x.excuse(1, 0));
        x.plan(0, 5, 1, 1);
        check.is("of a scope below", 1, x.excuse(2, 0));
        checkLeft(x, 7, 0, 0);
    }

    private static void promise22RefusesWhatIsExcused() {
        FrostCalendar x = new FrostCalendar();
        x.exceptions(1, 9);
        x.once(0, 0, 10, 1);
        x.once(0, 0, 5, 1);
        x.plan(0, 0, 10, 1);
        x.plan(0, 0, 10, 1);
        x.excuse(0, 0);
        check.refuses("excuse(0, 0) again", Check.BAD_STATE, () -> x.excuse(0, 0));
        checkLeft(x, 8, 0, 0);
        check.is("the other freeze is a reason", 2, x.reasons(0));
        check.is("another change is not excused", 3, x.reasons(1));
        check.is("the other freeze", 1, x.excuse(0, 1));
        check.is("no reason is left", 0, x.reasons(0));
        check.is("another change", 1, x.excuse(1, 0));
    }

    private static void promise22RefusesWithoutExceptions() {
        FrostCalendar x = new FrostCalendar();
        for (int rank = 1; rank <= 3; rank++) {
            x.once(0, 0, 1, rank);
        }
        x.plan(0, 0, 1, 1);
        for (int freeze = 0; freeze <= 2; freeze++) {
            int asked = freeze;
            check.refuses("excuse(0, " + freeze + ")", Check.BAD_STATE, () -> x.excuse(0, asked));
        }
        check.is("it is not excused", 7, x.reasons(0));
        checkLeft(x, 0, 0, 0);
        x.exceptions(2, 1);
        check.refuses("excuse(0, 2) by the rank 2", Check.BAD_STATE, () -> x.excuse(0, 2));
        check.is("excuse(0, 1)", 2, x.excuse(0, 1));
        check.refuses("excuse(0, 0) by none", Check.BAD_STATE, () -> x.excuse(0, 0));
    }

    private static void promise22ExcusesInWhateverState() {
        FrostCalendar x = new FrostCalendar();
        x.exceptions(1, 9);
        x.daily(0, 0, 5, 6, 1);
        x.daily(0, 0, 6, 7, 1);
        x.plan(0, 0, 3, 1);
        x.approve(0);
        x.begin(0);
        x.offset(0, 5);
        check.is("bad by the new offset", 2, x.badHours(0));
        check.is("excuse of one that has begun", 1, x.excuse(0, 0));
        check.is("one is left", 1, x.badHours(0));
        x.pass(3);
        check.is("it is done", FrostCalendar.DONE, x.state(0));
        check.is("excuse of one that is done", 1, x.excuse(0, 1));
        check.is("none is left", 0, x.badHours(0));
    }

    private static void promise22LooksAtTheBeginning() {
        FrostCalendar x = new FrostCalendar();
        x.exceptions(1, 9);
        x.once(0, 50, 60, 1);
        x.plan(0, 0, 3, 1);
        x.plan(0, 0, 3, 1);
        x.approve(0);
        x.begin(0);
        x.once(0, 0, 60, 1);
        check.refuses("laid in the hour of its beginning", Check.BAD_STATE, () -> x.excuse(0, 1));
        x.pass(1);
        x.once(0, 0, 60, 1);
        check.refuses("laid later", Check.BAD_STATE, () -> x.excuse(0, 2));
        check.is("laid ahead of it", 1, x.excuse(0, 0));
        check.is("of a change that has not begun", 1, x.excuse(1, 1));
        checkLeft(x, 7, 0, 0);
    }
}
