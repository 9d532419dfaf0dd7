/** Promises 1 to 6: a new object, scope, offset, feast, pass, now. */
public final class ScopesLandsTimeTest {
    private static final Check check = new Check("ScopesLandsTimeTest");

    public static void main(String[] args) {
        promise1StartsWithOneScopeAtHourZero();
        promise1MakesObjectsThatShareNothing();
        promise2NumbersScopes();
        promise2HoldsSixteenScopes();
        promise2PutsScopesBelowOneAnother();
        promise3AnswersTheOffsetBefore();
        promise3RefusesWhatIsOutOfRange();
        promise3CountsWhenAsked();
        promise4TurnsFeastDays();
        promise4RefusesWhatIsOutOfRange();
        promise4CountsWhenAsked();
        promise5LetsHoursGoBy();
        promise5RefusesWhatIsOutOfRange();
        promise6AnswersNow();
        check.close();
    }

    private static void promise1StartsWithOneScopeAtHourZero() {
        FrostCalendar x = new FrostCalendar();
        check.is("now()", 0, x.now());
        check.is("holding(0, 0)", 0, x.holding(0, 0));
        check.refuses("holding(1, 0)", Check.NO_INDEX, () -> x.holding(1, 0));
        check.refuses("hours(0)", Check.NO_ELEMENT, () -> x.hours(0));
        check.refuses("state(0)", Check.NO_INDEX, () -> x.state(0));
        for (int rank = 1; rank <= 3; rank++) {
            check.is("left(" + rank + ")", 0, x.left(rank));
        }
        for (int land = 0; land <= 3; land++) {
            check.is("first offset of " + land, 0, x.offset(land, 0));
            x.feasts(0, land, 1);
            check.is("feast hours of " + land, 0, x.hours(land));
        }
        check.is("scope(0)", 1, x.scope(0));
    }

    private static void promise1MakesObjectsThatShareNothing() {
        FrostCalendar x = new FrostCalendar();
        x.scope(0);
        x.pass(5);
        x.offset(2, 7);
        x.feast(2, 3);
        x.exceptions(1, 9);
        x.once(0, 0, 672, 1);
        x.plan(0, 5, 1, 1);
        FrostCalendar y = new FrostCalendar();
        check.is("now() of another", 0, y.now());
        check.is("offset of another", 0, y.offset(2, 0));
        check.is("feast of another", true, y.feast(2, 3));
        check.is("left of another", 0, y.left(1));
        check.is("holding of another", 0, y.holding(0, 0));
        check.refuses("state of another", Check.NO_INDEX, () -> y.state(0));
        check.is("scope of another", 1, y.scope(0));
    }

    private static void promise2NumbersScopes() {
        FrostCalendar x = new FrostCalendar();
        for (int above : new int[] {-1, 1, 15, 16, Integer.MIN_VALUE, Integer.MAX_VALUE}) {
            check.refuses("scope(" + above + ")", Check.NO_INDEX, () -> x.scope(above));
        }
        check.is("scope(0)", 1, x.scope(0));
        check.refuses("scope(2) of two", Check.NO_INDEX, () -> x.scope(2));
        check.is("scope(1)", 2, x.scope(1));
        check.is("scope(1) again", 3, x.scope(1));
    }

    private static void promise2HoldsSixteenScopes() {
        FrostCalendar x = new FrostCalendar();
        for (int number = 1; number <= 15; number++) {
            check.is("scope below " + (number - 1), number, x.scope(number - 1));
        }
        check.refuses("a seventeenth scope", Check.BAD_STATE, () -> x.scope(0));
        check.refuses("a seventeenth below the last", Check.BAD_STATE, () -> x.scope(15));
        check.refuses("a seventeenth below none", Check.NO_INDEX, () -> x.scope(16));
        check.refuses("a seventeenth below -1", Check.NO_INDEX, () -> x.scope(-1));
        check.refuses("holding in a seventeenth", Check.NO_INDEX, () -> x.holding(16, 0));
        x.once(15, 0, 1, 1);
        check.is("the lowest touches the highest", 1, x.holding(0, 0));
        check.is("the lowest touches the middle", 1, x.holding(7, 0));
        x.once(0, 0, 1, 1);
        check.is("the highest touches the lowest", 3, x.holding(15, 0));
    }

    private static void promise2PutsScopesBelowOneAnother() {
        FrostCalendar x = new FrostCalendar();
        x.scope(0); // 1
        x.scope(0); // 2
        x.scope(1); // 3
        x.scope(1); // 4
        x.scope(3); // 5
        for (int scope = 0; scope <= 5; scope++) {
            x.once(scope, 0, 1, 1);
        }
        int[] due = {0b111111, 0b111011, 0b000101, 0b101011, 0b010011, 0b101011};
        for (int scope = 0; scope <= 5; scope++) {
            check.is("holding(" + scope + ", 0)", due[scope], x.holding(scope, 0));
        }
    }

    private static void promise3AnswersTheOffsetBefore() {
        FrostCalendar x = new FrostCalendar();
        for (int land = 0; land <= 3; land++) {
            check.is("offset(land, -11)", 0, x.offset(land, -11));
            check.is("offset(land, 12)", -11, x.offset(land, 12));
            check.is("offset(land, 12) again", 12, x.offset(land, 12));
            check.is("offset(land, land)", 12, x.offset(land, land));
        }
        for (int land = 0; land <= 3; land++) {
            check.is("each land its own offset", land, x.offset(land, 0));
        }
    }

    private static void promise3RefusesWhatIsOutOfRange() {
        FrostCalendar x = new FrostCalendar();
        x.offset(1, 5);
        for (int land : new int[] {-1, 4, Integer.MIN_VALUE, Integer.MAX_VALUE}) {
            check.refuses("offset(" + land + ", 0)", Check.NO_INDEX, () -> x.offset(land, 0));
            check.refuses("offset(" + land + ", 13)", Check.NO_INDEX, () -> x.offset(land, 13));
        }
        for (int offset : new int[] {-12, 13, Integer.MIN_VALUE, Integer.MAX_VALUE}) {
            check.refuses("offset(1, " + offset + ")", Check.BAD_ARGUMENT, () -> x.offset(1, offset));
        }
        check.is("the offset stays", 5, x.offset(1, 0));
    }

    private static void promise3CountsWhenAsked() {
        FrostCalendar x = new FrostCalendar();
        x.daily(0, 1, 6, 7, 1);
        check.is("without an offset", 1, x.holding(0, 6));
        x.offset(1, 4);
        check.is("the old hour", 0, x.holding(0, 6));
        check.is("the hour of the land", 1, x.holding(0, 2));
        x.offset(1, -11);
        check.is("an offset below 0", 1, x.holding(0, 17));
        check.is("four hours ahead of noon", 0, x.holding(0, 2));
        x.offset(2, 9);
        check.is("another land's offset", 1, x.holding(0, 17));
    }

    private static void promise4TurnsFeastDays() {
        FrostCalendar x = new FrostCalendar();
        for (int day = -1; day <= 28; day++) {
            check.is("feast(0, " + day + ")", true, x.feast(0, day));
        }
        for (int day = -1; day <= 28; day++) {
            check.is("feast(0, " + day + ") back", false, x.feast(0, day));
        }
        check.is("feast(3, 5)", true, x.feast(3, 5));
        check.is("feast(2, 5)", true, x.feast(2, 5));
        check.is("feast(3, 5) back", false, x.feast(3, 5));
        check.is("feast(3, 5) again", true, x.feast(3, 5));
    }

    private static void promise4RefusesWhatIsOutOfRange() {
        FrostCalendar x = new FrostCalendar();
        for (int land : new int[] {-1, 4, Integer.MIN_VALUE, Integer.MAX_VALUE}) {
            check.refuses("feast(" + land + ", 0)", Check.NO_INDEX, () -> x.feast(land, 0) ? 1 : 0);
            check.refuses("feast(" + land + ", 29)", Check.NO_INDEX, () -> x.feast(land, 29) ? 1 : 0);
        }
        for (int day : new int[] {-2, 29, Integer.MIN_VALUE, Integer.MAX_VALUE}) {
            check.refuses("feast(0, " + day + ")", Check.BAD_ARGUMENT, () -> x.feast(0, day) ? 1 : 0);
        }
        for (int day = -1; day <= 28; day++) {
            check.is("no refused call made a feast of " + day, true, x.feast(0, day));
        }
    }

    private static void promise4CountsWhenAsked() {
        FrostCalendar x = new FrostCalendar();
        x.feasts(0, 2, 1);
        check.is("no feast", 0, x.hours(0));
        x.feast(2, 1);
        check.is("a feast", 24, x.hours(0));
        check.is("an hour of it", 1, x.holding(0, 24));
        x.feast(1, 2);
        check.is("a feast of another land", 24, x.hours(0));
        x.feast(2, 1);
        check.is("a feast taken back", 0, x.hours(0));
    }

    private static void promise5LetsHoursGoBy() {
        FrostCalendar x = new FrostCalendar();
        check.is("pass(1)", 1, x.pass(1));
        check.is("pass(100)", 101, x.pass(100));
        for (int hundred = 2; hundred <= 6; hundred++) {
            check.is("pass(100)", 100 * hundred + 1, x.pass(100));
        }
        check.refuses("pass(71) at 601", Check.BAD_STATE, () -> x.pass(71));
        check.refuses("pass(100) at 601", Check.BAD_STATE, () -> x.pass(100));
        check.is("now() behind refusals", 601, x.now());
        check.is("pass(70)", 671, x.pass(70));
        check.refuses("pass(1) at 671", Check.BAD_STATE, () -> x.pass(1));
        check.refuses("pass(101) at 671", Check.BAD_ARGUMENT, () -> x.pass(101));
        check.is("now() at the end", 671, x.now());
    }

    private static void promise5RefusesWhatIsOutOfRange() {
        FrostCalendar x = new FrostCalendar();
        x.pass(3);
        for (int hours : new int[] {0, -1, 101, Integer.MIN_VALUE, Integer.MAX_VALUE}) {
            check.refuses("pass(" + hours + ")", Check.BAD_ARGUMENT, () -> x.pass(hours));
        }
        check.is("now()", 3, x.now());
    }

    private static void promise6AnswersNow() {
        FrostCalendar x = new FrostCalendar();
        check.is("now() at first", 0, x.now());
        x.pass(17);
        check.is("now()", 17, x.now());
        x.offset(0, 12);
        check.is("now() is no land's hour", 17, x.now());
        x.pass(4);
        check.is("now() later", 21, x.now());
        check.is("now() again", 21, x.now());
    }
}
