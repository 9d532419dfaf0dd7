/** Promises 14 to 19: plan, move, approve, begin, state, approved. */
public final class ChangesTest {
    private static final Check check = new Check("ChangesTest");
    private static final int[] NO_FIRST_CHANGES = {-1, 0, 29, 30, Integer.MIN_VALUE, Integer.MAX_VALUE};
    private static final int[] NO_RANKS = {0, 4, -1, Integer.MIN_VALUE, Integer.MAX_VALUE};

    public static void main(String[] args) {
        promise14Plans();
        promise14RefusesWhatIsOutOfRange();
        promise14LooksAtNow();
        promise14PlansThirty();
        promise15Moves();
        promise15TakesApprovalsAndExcuses();
        promise15RefusesWhatIsOutOfRange();
        promise15RefusesWhatIsNotPlanned();
        promise16Approves();
        promise16RefusesWhatIsNotPlanned();
        promise17Begins();
        promise17RefusesTheWrongHour();
        promise17RefusesWithoutApprovals();
        promise17RefusesWhatIsNotLetThrough();
        promise18AnswersStates();
        promise18KnowsTheLastHour();
        promise19AnswersTheRank();
        check.close();
    }

    private static void approveUpTo(FrostCalendar x, int change, int rank) {
        for (int next = 1; next <= rank; next++) {
            check.is("approve(" + change + ")", next, x.approve(change));
        }
    }

    private static void promise14Plans() {
        FrostCalendar x = new FrostCalendar();
        x.scope(0);
        check.is("plan(0, 0, 1, 1)", 0, x.plan(0, 0, 1, 1));
        check.is("plan(1, 572, 100, 3)", 1, x.plan(1, 572, 100, 3));
        check.is("plan(0, 671, 1, 2)", 2, x.plan(0, 671, 1, 2));
        x.once(0, 0, 100, 1);
        check.is("plan in a freeze", 3, x.plan(0, 0, 100, 1));
        for (int change = 0; change <= 3; change++) {
            check.is("state(" + change + ")", FrostCalendar.PLANNED, x.state(change));
            check.is("approved(" + change + ")", 0, x.approved(change));
        }
        x.once(1, 0, 672, 1);
        check.is("its span", 100, x.badHours(1));
        check.is("its first hour", 572, x.firstBad(1));
        check.is("its scope", 2, x.reasons(1));
    }

    private static void promise14RefusesWhatIsOutOfRange() {
        FrostCalendar x = new FrostCalendar();
        for (int scope : new int[] {-1, 1, 16, Integer.MIN_VALUE, Integer.MAX_VALUE}) {
            check.refuses("plan(" + scope + ", 0, 1, 1)", Check.NO_INDEX, () -> x.plan(scope, 0, 1, 1));
            check.refuses("plan(" + scope + ", -1, 0, 0)", Check.NO_INDEX, () -> x.plan(scope, -1, 0, 0));
        }
        for (int from : new int[] {-1, 672, Integer.MIN_VALUE, Integer.MAX_VALUE}) {
            check.refuses("plan(0, " + from + ", 1, 1)", Check.BAD_ARGUMENT, () -> x.plan(0, from, 1, 1));
            check.refuses("plan(0, " + from + ", 100, 1)", Check.BAD_ARGUMENT, () -> x.plan(0, from, 100, 1));
        }
        for (int length : new int[] {0, -1, 101, Integer.MIN_VALUE, Integer.MAX_VALUE}) {
            check.refuses("plan(0, 0, " + length + ", 1)", Check.BAD_ARGUMENT, () -> x.plan(0, 0, length, 1));
            check.refuses("plan(0, 671, " + length + ", 1)", Check.BAD_ARGUMENT, () -> x.plan(0, 671, length, 1));
        }
        check.refuses("plan(0, 573, 100, 1)", Check.BAD_ARGUMENT, () -> x.plan(0, 573, 100, 1));
        check.refuses("plan(0, 671, 2, 1)", Check.BAD_ARGUMENT, () -> x.plan(0, 671, 2, 1));
        for (int risk : NO_RANKS) {
            check.refuses("plan(0, 0, 1, " + risk + ")", Check.BAD_ARGUMENT, () -> x.plan(0, 0, 1, risk));
        }
        check.is("none was planned", 0, x.plan(0, 0, 1, 1));
    }

    private static void promise14LooksAtNow() {
        FrostCalendar x = new FrostCalendar();
        x.pass(10);
        check.refuses("plan(0, 9, 1, 1)", Check.BAD_ARGUMENT, () -> x.plan(0, 9, 1, 1));
        check.refuses("plan(0, 0, 100, 1)", Check.BAD_ARGUMENT, () -> x.plan(0, 0, 100, 1));
        check.is("plan(0, 10, 1, 1)", 0, x.plan(0, 10, 1, 1));
    }

    private static void promise14PlansThirty() {
        FrostCalendar x = new FrostCalendar();
        for (int change = 0; change < 30; change++) {
            check.is("plan", change, x.plan(0, change, 1, 1));
        }
        check.refuses("plan, the 31st", Check.BAD_STATE, () -> x.plan(0, 0, 1, 1));
        check.refuses("plan, a bad risk is first", Check.BAD_ARGUMENT, () -> x.plan(0, 0, 1, 4));
        check.refuses("plan, a bad scope is first", Check.NO_INDEX, () -> x.plan(1, 0, 1, 1));
        check.is("the 30th is there", FrostCalendar.PLANNED, x.state(29));
        check.refuses("state(30)", Check.NO_INDEX, () -> x.state(30));
        x.approve(0);
        x.begin(0);
        x.pass(1);
        check.refuses("plan, what is done counts", Check.BAD_STATE, () -> x.plan(0, 1, 1, 1));
    }

    private static void promise15Moves() {
        FrostCalendar x = new FrostCalendar();
        x.once(0, 10, 20, 1);
        x.once(0, 15, 25, 1);
        x.plan(0, 0, 10, 1);
        check.is("move(0, 5)", 5, x.move(0, 5));
        check.is("firstBad(0)", 10, x.firstBad(0));
        check.is("move(0, 15)", 10, x.move(0, 15));
        check.is("move(0, 20)", 5, x.move(0, 20));
        check.is("move(0, 25)", 0, x.move(0, 25));
        check.is("move(0, 662)", 0, x.move(0, 662));
        check.is("and back", 0, x.move(0, 0));
        x.pass(26);
        check.is("a change that was missed", 0, x.move(0, 26));
        approveUpTo(x, 0, 1);
        check.is("its length stays", 36, x.begin(0));
    }

    private static void promise15TakesApprovalsAndExcuses() {
        FrostCalendar x = new FrostCalendar();
        x.once(0, 0, 672, 1);
        x.exceptions(1, 2);
        x.plan(0, 5, 10, 2);
        approveUpTo(x, 0, 2);
        check.is("excuse(0, 0)", 1, x.excuse(0, 0));
        check.is("badHours(0), excused", 0, x.badHours(0));
        check.is("move to the hour that it has", 10, x.move(0, 5));
        check.is("approved(0)", 0, x.approved(0));
        check.is("badHours(0), moved", 10, x.badHours(0));
        check.is("the exception is spent", 1, x.left(1));
        check.is("it is excused again", 1, x.excuse(0, 0));
        check.is("no exception is left", 0, x.left(1));
        check.is("and approved again", 1, x.approve(0));
    }

    private static void promise15RefusesWhatIsOutOfRange() {
        FrostCalendar x = new FrostCalendar();
        for (int change : NO_FIRST_CHANGES) {
            check.refuses("move(" + change + ", 0)", Check.NO_INDEX, () -> x.move(change, 0));
            check.refuses("move(" + change + ", -1)", Check.NO_INDEX, () -> x.move(change, -1));
        }
        x.pass(3);
        x.once(0, 0, 50, 1);
        x.exceptions(1, 1);
        x.plan(0, 40, 10, 1);
        x.approve(0);
        x.excuse(0, 0);
        for (int from : new int[] {-1, 2, 663, 672, Integer.MIN_VALUE, Integer.MAX_VALUE}) {
            check.refuses("move(0, " + from + ")", Check.BAD_ARGUMENT, () -> x.move(0, from));
        }
        check.is("the approval stays", 1, x.approved(0));
        check.is("the excuse stays", 0, x.reasons(0));
        check.refuses("and is not given twice", Check.BAD_STATE, () -> x.excuse(0, 0));
        check.is("move(0, 3)", 10, x.move(0, 3));
        check.is("move(0, 662)", 0, x.move(0, 662));
    }

    private static void promise15RefusesWhatIsNotPlanned() {
        FrostCalendar x = new FrostCalendar();
        x.plan(0, 0, 10, 1);
        x.approve(0);
        x.begin(0);
        check.refuses("move of one that has begun", Check.BAD_STATE, () -> x.move(0, 20));
        check.refuses("move of it, a bad hour is first", Check.BAD_ARGUMENT, () -> x.move(0, 663));
        x.pass(10);
        check.refuses("move of one that is done", Check.BAD_STATE, () -> x.move(0, 20));
        check.refuses("move of it to an hour that is over", Check.BAD_ARGUMENT, () -> x.move(0, 9));
        check.is("its approval stays", 1, x.approved(0));
        check.is("it stays done", FrostCalendar.DONE, x.state(0));
    }

    private static void promise16Approves() {
        FrostCalendar x = new FrostCalendar();
        for (int change : NO_FIRST_CHANGES) {
            check.refuses("approve(" + change + ")", Check.NO_INDEX, () -> x.approve(change));
        }
        for (int risk = 1; risk <= 3; risk++) {
            int change = x.plan(0, 0, 1, risk);
            approveUpTo(x, change, risk);
            check.refuses("approve beyond its risk", Check.BAD_STATE, () -> x.approve(change));
            check.is("approved", risk, x.approved(change));
        }
        x.pass(5);
        x.move(0, 5);
        x.once(0, 0, 672, 3);
        check.is("approve with bad hours", 1, x.approve(0));
    }

    private static void promise16RefusesWhatIsNotPlanned() {
        FrostCalendar x = new FrostCalendar();
        x.plan(0, 0, 2, 1);
        x.plan(0, 0, 2, 1);
        x.approve(0);
        x.begin(0);
        check.refuses("approve of one that has begun", Check.BAD_STATE, () -> x.approve(0));
        x.pass(2);
        check.refuses("approve of one that is done", Check.BAD_STATE, () -> x.approve(0));
        check.is("approve of one that was missed", 1, x.approve(1));
    }

    private static void promise17Begins() {
        FrostCalendar x = new FrostCalendar();
        for (int change : NO_FIRST_CHANGES) {
            check.refuses("begin(" + change + ")", Check.NO_INDEX, () -> x.begin(change));
        }
        x.pass(71);
        x.plan(0, 71, 100, 3);
        approveUpTo(x, 0, 3);
        check.is("begin(0)", 171, x.begin(0));
        check.refuses("begin(0) again", Check.BAD_STATE, () -> x.begin(0));
        for (int hundred = 1; hundred <= 6; hundred++) {
            x.pass(100);
        }
        check.refuses("begin of one that is done", Check.BAD_STATE, () -> x.begin(0));
        x.plan(0, 671, 1, 1);
        x.approve(1);
        check.is("begin in the last hour", 672, x.begin(1));
    }

    private static void promise17RefusesTheWrongHour() {
        FrostCalendar x = new FrostCalendar();
        x.plan(0, 2, 5, 1);
        x.approve(0);
        check.refuses("begin two hours early", Check.BAD_STATE, () -> x.begin(0));
        x.pass(1);
        check.refuses("begin an hour early", Check.BAD_STATE, () -> x.begin(0));
        x.pass(2);
        check.refuses("begin an hour late", Check.BAD_STATE, () -> x.begin(0));
        check.is("it stays planned", FrostCalendar.PLANNED, x.state(0));
        x.move(0, 3);
        x.approve(0);
        check.is("begin in its hour", 8, x.begin(0));
    }

    private static void promise17RefusesWithoutApprovals() {
        FrostCalendar x = new FrostCalendar();
        x.plan(0, 0, 5, 3);
        for (int rank = 1; rank <= 3; rank++) {
            check.refuses("begin ahead of the rank " + rank, Check.BAD_STATE, () -> x.begin(0));
            x.approve(0);
        }
        x.move(0, 0);
        check.refuses("begin of one that was moved", Check.BAD_STATE, () -> x.begin(0));
        approveUpTo(x, 0, 3);
        check.is("begin(0)", 5, x.begin(0));
    }

    private static void promise17RefusesWhatIsNotLetThrough() {
        FrostCalendar x = new FrostCalendar();
        x.scope(0);
        x.scope(0);
        x.once(1, 4, 5, 2);
        x.once(2, 0, 672, 1);
        x.plan(1, 0, 5, 1);
        x.approve(0);
        check.refuses("begin with a bad last hour", Check.BAD_STATE, () -> x.begin(0));
        check.is("it stays planned", FrostCalendar.PLANNED, x.state(0));
        x.exceptions(2, 1);
        x.excuse(0, 0);
        check.is("begin, excused", 5, x.begin(0));
        x.plan(1, 0, 4, 1);
        x.approve(1);
        check.is("begin ahead of the freeze", 4, x.begin(1));
        x.pass(5);
        x.plan(1, 5, 4, 1);
        x.approve(2);
        check.is("begin behind the freeze", 9, x.begin(2));
        x.plan(2, 5, 1, 1);
        x.approve(3);
        check.refuses("begin in the other freeze", Check.BAD_STATE, () -> x.begin(3));
        x.lift(1);
        check.is("begin behind its lifting", 6, x.begin(3));
    }

    private static void promise18AnswersStates() {
        FrostCalendar x = new FrostCalendar();
        for (int change : NO_FIRST_CHANGES) {
            check.refuses("state(" + change + ")", Check.NO_INDEX, () -> x.state(change));
        }
        x.plan(0, 2, 3, 1);
        x.plan(0, 2, 3, 1);
        x.approve(0);
        check.is("planned", FrostCalendar.PLANNED, x.state(0));
        x.pass(2);
        check.is("planned in its hour", FrostCalendar.PLANNED, x.state(0));
        x.begin(0);
        check.is("begun", FrostCalendar.BEGUN, x.state(0));
        x.pass(2);
        check.is("in its last hour", FrostCalendar.BEGUN, x.state(0));
        x.pass(1);
        check.is("behind its span", FrostCalendar.DONE, x.state(0));
        x.pass(50);
        check.is("later", FrostCalendar.DONE, x.state(0));
        check.is("never begun", FrostCalendar.PLANNED, x.state(1));
    }

    private static void promise18KnowsTheLastHour() {
        FrostCalendar x = new FrostCalendar();
        for (int hundred = 1; hundred <= 6; hundred++) {
            x.pass(100);
        }
        x.plan(0, 600, 72, 1);
        x.plan(0, 600, 71, 1);
        x.approve(0);
        x.approve(1);
        x.begin(0);
        x.begin(1);
        x.pass(71);
        check.is("a span to the hour 671", FrostCalendar.BEGUN, x.state(0));
        check.is("a span to the hour 670", FrostCalendar.DONE, x.state(1));
    }

    private static void promise19AnswersTheRank() {
        FrostCalendar x = new FrostCalendar();
        for (int change : NO_FIRST_CHANGES) {
            check.refuses("approved(" + change + ")", Check.NO_INDEX, () -> x.approved(change));
        }
        x.plan(0, 0, 1, 2);
        x.plan(0, 0, 1, 3);
        check.is("none", 0, x.approved(0));
        x.approve(0);
        check.is("one", 1, x.approved(0));
        x.approve(0);
        check.is("two", 2, x.approved(0));
        check.is("of another change", 0, x.approved(1));
        x.begin(0);
        check.is("begun", 2, x.approved(0));
        x.pass(1);
        check.is("done", 2, x.approved(0));
    }
}
