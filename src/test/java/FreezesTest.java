/** Promises 7 to 13: once, daily, feasts, lift, holding, hours, nextSpan. */
public final class FreezesTest {
    private static final Check check = new Check("FreezesTest");
    private static final int[] NO_SCOPES = {-1, 1, 16, Integer.MIN_VALUE, Integer.MAX_VALUE};
    private static final int[] NO_LANDS = {-1, 4, Integer.MIN_VALUE, Integer.MAX_VALUE};
    private static final int[] NO_RANKS = {0, 4, -1, Integer.MIN_VALUE, Integer.MAX_VALUE};
    private static final int[] NO_HOURS_OF_DAY = {-1, 24, Integer.MIN_VALUE, Integer.MAX_VALUE};
    private static final int[] NO_HOURS = {-1, 672, Integer.MIN_VALUE, Integer.MAX_VALUE};

    public static void main(String[] args) {
        promise7HoldsFromOneHourToAnother();
        promise7RefusesWhatIsOutOfRange();
        promise7LaysTwenty();
        promise8HoldsBetweenHoursOfTheDay();
        promise8HoldsOverMidnight();
        promise8HoldsAlways();
        promise8RefusesWhatIsOutOfRange();
        promise8LaysTwenty();
        promise9HoldsOnFeastDays();
        promise9KnowsTheOuterDays();
        promise9RefusesWhatIsOutOfRange();
        promise9LaysTwenty();
        promise10Lifts();
        promise10RefusesWhatIsNoMore();
        promise11AnswersTheSet();
        promise11RefusesWhatIsOutOfRange();
        promise12CountsHours();
        promise12RefusesWhatIsNoMore();
        promise13FindsSpans();
        promise13FindsTheLastSpan();
        promise13LooksAtTouchingFreezesAlone();
        promise13RefusesWhatIsOutOfRange();
        check.close();
    }

    private static FrostCalendar withTwentyFreezes() {
        FrostCalendar x = new FrostCalendar();
        for (int number = 0; number < 20; number++) {
            check.is("once number " + number, number, x.once(0, number, number + 1, 1));
        }
        return x;
    }

    private static void promise7HoldsFromOneHourToAnother() {
        FrostCalendar x = new FrostCalendar();
        check.is("once(0, 5, 8, 1)", 0, x.once(0, 5, 8, 1));
        int[] due = {0, 1, 1, 1, 0};
        for (int hour = 4; hour <= 8; hour++) {
            check.is("holding(0, " + hour + ")", due[hour - 4], x.holding(0, hour));
        }
        x.offset(0, 12);
        check.is("no land's hours", 1, x.holding(0, 5));
        check.is("not the next day", 0, x.holding(0, 29));
        check.is("once(0, 0, 672, 3)", 1, x.once(0, 0, 672, 3));
        check.is("the first hour", 2, x.holding(0, 0));
        check.is("the last hour", 2, x.holding(0, 671));
        check.is("once(0, 671, 672, 2)", 2, x.once(0, 671, 672, 2));
        check.is("both", 6, x.holding(0, 671));
        x.pass(9);
        check.is("a freeze that is over can be laid", 3, x.once(0, 0, 1, 1));
        check.is("and holds", 10, x.holding(0, 0));
    }

    private static void promise7RefusesWhatIsOutOfRange() {
        FrostCalendar x = new FrostCalendar();
        for (int scope : NO_SCOPES) {
            check.refuses("once(" + scope + ", 0, 1, 1)", Check.NO_INDEX, () -> x.once(scope, 0, 1, 1));
            check.refuses("once(" + scope + ", 9, 9, 9)", Check.NO_INDEX, () -> x.once(scope, 9, 9, 9));
        }
        for (int from : NO_HOURS) {
            check.refuses("once(0, " + from + ", 672, 1)", Check.BAD_ARGUMENT, () -> x.once(0, from, 672, 1));
            check.refuses("once(0, from, from + 1, 1)", Check.BAD_ARGUMENT, () -> x.once(0, from, from + 1, 1));
        }
        for (int to : new int[] {5, 4, 0, -1, 673, Integer.MIN_VALUE, Integer.MAX_VALUE}) {
            check.refuses("once(0, 5, " + to + ", 1)", Check.BAD_ARGUMENT, () -> x.once(0, 5, to, 1));
        }
        check.refuses("once(0, 671, 671, 1)", Check.BAD_ARGUMENT, () -> x.once(0, 671, 671, 1));
        for (int rank : NO_RANKS) {
            check.refuses("once(0, 0, 1, " + rank + ")", Check.BAD_ARGUMENT, () -> x.once(0, 0, 1, rank));
        }
        check.is("none was laid", 0, x.once(0, 0, 1, 1));
    }

    private static void promise7LaysTwenty() {
        FrostCalendar x = withTwentyFreezes();
        check.refuses("once, the 21st", Check.BAD_STATE, () -> x.once(0, 0, 1, 1));
        check.is("lift(7)", 19, x.lift(7));
        check.refuses("once, lifted ones count", Check.BAD_STATE, () -> x.once(0, 0, 1, 1));
        check.refuses("once, a bad rank is first", Check.BAD_ARGUMENT, () -> x.once(0, 0, 1, 4));
        check.refuses("once, a bad scope is first", Check.NO_INDEX, () -> x.once(1, 0, 1, 1));
        check.is("none was laid", 18, x.lift(8));
        check.is("the 20th is there", 1, x.hours(19));
    }

    private static void promise8HoldsBetweenHoursOfTheDay() {
        FrostCalendar x = new FrostCalendar();
        check.is("daily(0, 0, 4, 20, 2)", 0, x.daily(0, 0, 4, 20, 2));
        int[] hours = {0, 3, 4, 19, 20, 23, 24, 27, 28, 43, 44, 651, 652, 667, 668, 671};
        int[] due = {0, 0, 1, 1, 0, 0, 0, 0, 1, 1, 0, 0, 1, 1, 0, 0};
        for (int place = 0; place < hours.length; place++) {
            check.is("holding(0, " + hours[place] + ")", due[place], x.holding(0, hours[place]));
        }
        x.daily(0, 3, 0, 1, 1);
        x.offset(3, 12);
        check.is("an offset of 12", 3, x.holding(0, 12));
        x.offset(3, -11);
        check.is("an offset of -11, hour 10", 1, x.holding(0, 10));
        check.is("an offset of -11, hour 11", 3, x.holding(0, 11));
        check.is("an offset of -11, hour 12", 1, x.holding(0, 12));
    }

    private static void promise8HoldsOverMidnight() {
        FrostCalendar x = new FrostCalendar();
        x.daily(0, 1, 20, 4, 1);
        int[] hours = {0, 3, 4, 19, 20, 23, 24, 27, 28, 667, 668, 671};
        int[] due = {1, 1, 0, 0, 1, 1, 1, 1, 0, 0, 1, 1};
        for (int place = 0; place < hours.length; place++) {
            check.is("holding(0, " + hours[place] + ")", due[place], x.holding(0, hours[place]));
        }
        x.offset(1, -5);
        int[] moved = {0, 1, 8, 9};
        int[] dueThen = {0, 1, 1, 0};
        for (int place = 0; place < moved.length; place++) {
            check.is("behind, holding(0, " + moved[place] + ")", dueThen[place], x.holding(0, moved[place]));
        }
        x.daily(0, 0, 23, 0, 1);
        check.is("an hour ahead of midnight", 2, x.holding(0, 23) & 2);
        check.is("midnight", 0, x.holding(0, 24) & 2);
    }

    private static void promise8HoldsAlways() {
        FrostCalendar x = new FrostCalendar();
        x.daily(0, 0, 0, 0, 1);
        x.daily(0, 1, 23, 23, 1);
        x.daily(0, 2, 5, 5, 1);
        for (int number = 0; number <= 2; number++) {
            check.is("hours(" + number + ")", 672, x.hours(number));
        }
        check.is("holding(0, 4)", 7, x.holding(0, 4));
        check.is("holding(0, 5)", 7, x.holding(0, 5));
    }

    private static void promise8RefusesWhatIsOutOfRange() {
        FrostCalendar x = new FrostCalendar();
        for (int scope : NO_SCOPES) {
            check.refuses("daily(" + scope + ", ..)", Check.NO_INDEX, () -> x.daily(scope, 0, 1, 2, 1));
            check.refuses("daily(" + scope + ", bad ..)", Check.NO_INDEX, () -> x.daily(scope, 0, 24, 24, 0));
        }
        for (int land : NO_LANDS) {
            check.refuses("daily(0, " + land + ", ..)", Check.NO_INDEX, () -> x.daily(0, land, 1, 2, 1));
            check.refuses("daily(0, " + land + ", bad ..)", Check.NO_INDEX, () -> x.daily(0, land, 24, 24, 0));
        }
        for (int hour : NO_HOURS_OF_DAY) {
            check.refuses("daily(0, 0, " + hour + ", 2, 1)", Check.BAD_ARGUMENT, () -> x.daily(0, 0, hour, 2, 1));
            check.refuses("daily(0, 0, 1, " + hour + ", 1)", Check.BAD_ARGUMENT, () -> x.daily(0, 0, 1, hour, 1));
        }
        for (int rank : NO_RANKS) {
            check.refuses("daily(0, 0, 1, 2, " + rank + ")", Check.BAD_ARGUMENT, () -> x.daily(0, 0, 1, 2, rank));
        }
        check.is("none was laid", 0, x.daily(0, 3, 0, 23, 3));
    }

    private static void promise8LaysTwenty() {
        FrostCalendar x = withTwentyFreezes();
        check.refuses("daily, the 21st", Check.BAD_STATE, () -> x.daily(0, 0, 1, 2, 1));
        check.refuses("daily, a bad hour is first", Check.BAD_ARGUMENT, () -> x.daily(0, 0, 24, 2, 1));
        check.refuses("daily, a bad land is first", Check.NO_INDEX, () -> x.daily(0, 4, 1, 2, 1));
        check.is("lift(0)", 19, x.lift(0));
        check.refuses("daily, lifted ones count", Check.BAD_STATE, () -> x.daily(0, 0, 1, 2, 1));
    }

    private static void promise9HoldsOnFeastDays() {
        FrostCalendar x = new FrostCalendar();
        x.feast(1, 2);
        check.is("feasts(0, 1, 2)", 0, x.feasts(0, 1, 2));
        int[] hours = {47, 48, 71, 72};
        int[] due = {0, 1, 1, 0};
        for (int place = 0; place < hours.length; place++) {
            check.is("holding(0, " + hours[place] + ")", due[place], x.holding(0, hours[place]));
        }
        x.offset(1, 5);
        int[] moved = {42, 43, 66, 67};
        for (int place = 0; place < moved.length; place++) {
            check.is("offset 5, holding(0, " + moved[place] + ")", due[place], x.holding(0, moved[place]));
        }
        x.offset(1, -11);
        int[] behind = {58, 59, 82, 83};
        for (int place = 0; place < behind.length; place++) {
            check.is("offset -11, holding(0, " + behind[place] + ")", due[place], x.holding(0, behind[place]));
        }
    }

    private static void promise9KnowsTheOuterDays() {
        FrostCalendar x = new FrostCalendar();
        x.feasts(0, 3, 3);
        x.feast(3, -1);
        x.feast(3, 28);
        check.is("no offset", 0, x.hours(0));
        x.offset(3, -10);
        check.is("the day -1 has its last hours", 10, x.hours(0));
        check.is("hour 9", 1, x.holding(0, 9));
        check.is("hour 10", 0, x.holding(0, 10));
        x.offset(3, 12);
        check.is("the day 28 has its first hours", 12, x.hours(0));
        check.is("hour 659", 0, x.holding(0, 659));
        check.is("hour 660", 1, x.holding(0, 660));
    }

    private static void promise9RefusesWhatIsOutOfRange() {
        FrostCalendar x = new FrostCalendar();
        for (int scope : NO_SCOPES) {
            check.refuses("feasts(" + scope + ", 0, 1)", Check.NO_INDEX, () -> x.feasts(scope, 0, 1));
            check.refuses("feasts(" + scope + ", 0, 0)", Check.NO_INDEX, () -> x.feasts(scope, 0, 0));
        }
        for (int land : NO_LANDS) {
            check.refuses("feasts(0, " + land + ", 1)", Check.NO_INDEX, () -> x.feasts(0, land, 1));
            check.refuses("feasts(0, " + land + ", 0)", Check.NO_INDEX, () -> x.feasts(0, land, 0));
        }
        for (int rank : NO_RANKS) {
            check.refuses("feasts(0, 0, " + rank + ")", Check.BAD_ARGUMENT, () -> x.feasts(0, 0, rank));
        }
        check.is("none was laid", 0, x.feasts(0, 0, 1));
    }

    private static void promise9LaysTwenty() {
        FrostCalendar x = withTwentyFreezes();
        check.refuses("feasts, the 21st", Check.BAD_STATE, () -> x.feasts(0, 0, 1));
        check.refuses("feasts, a bad rank is first", Check.BAD_ARGUMENT, () -> x.feasts(0, 0, 0));
        check.refuses("feasts, a bad land is first", Check.NO_INDEX, () -> x.feasts(0, -1, 1));
        check.is("lift(19)", 19, x.lift(19));
        check.refuses("feasts, lifted ones count", Check.BAD_STATE, () -> x.feasts(0, 0, 1));
    }

    private static void promise10Lifts() {
        FrostCalendar x = new FrostCalendar();
        x.once(0, 0, 10, 1);
        x.daily(0, 0, 0, 5, 1);
        x.feasts(0, 0, 1);
        check.is("lift(1)", 2, x.lift(1));
        check.is("what is left holds", 1, x.holding(0, 0));
        check.is("lift(0)", 1, x.lift(0));
        check.is("nothing holds", 0, x.holding(0, 0));
        check.is("a number is not used again", 3, x.once(0, 0, 10, 1));
        check.is("lift(2)", 1, x.lift(2));
        check.is("lift(3)", 0, x.lift(3));
    }

    private static void promise10RefusesWhatIsNoMore() {
        FrostCalendar x = new FrostCalendar();
        check.refuses("lift(0) of none", Check.NO_ELEMENT, () -> x.lift(0));
        x.once(0, 0, 10, 1);
        x.once(0, 0, 10, 1);
        x.lift(0);
        for (int freeze : new int[] {0, 2, -1, 19, 20, 32, Integer.MIN_VALUE, Integer.MAX_VALUE}) {
            check.refuses("lift(" + freeze + ")", Check.NO_ELEMENT, () -> x.lift(freeze));
        }
        check.is("lift(1)", 0, x.lift(1));
    }

    private static void promise11AnswersTheSet() {
        FrostCalendar x = new FrostCalendar();
        x.scope(0);
        x.scope(1);
        x.scope(0);
        x.once(2, 0, 10, 1);
        x.daily(1, 0, 5, 15, 2);
        x.once(3, 0, 20, 3);
        x.once(0, 9, 10, 3);
        check.is("holding(0, 5)", 7, x.holding(0, 5));
        check.is("holding(1, 9)", 11, x.holding(1, 9));
        check.is("holding(2, 0)", 1, x.holding(2, 0));
        check.is("holding(3, 9)", 12, x.holding(3, 9));
        check.is("holding(3, 20)", 0, x.holding(3, 20));
        x.pass(100);
        check.is("an hour that is over", 7, x.holding(0, 5));
        x.lift(2);
        check.is("without a lifted one", 3, x.holding(0, 5));
        check.is("the bit of the last of twenty", 1 << 19, withTwentyFreezes().holding(0, 19));
    }

    private static void promise11RefusesWhatIsOutOfRange() {
        FrostCalendar x = new FrostCalendar();
        for (int scope : NO_SCOPES) {
            check.refuses("holding(" + scope + ", 0)", Check.NO_INDEX, () -> x.holding(scope, 0));
            check.refuses("holding(" + scope + ", 672)", Check.NO_INDEX, () -> x.holding(scope, 672));
        }
        for (int hour : NO_HOURS) {
            check.refuses("holding(0, " + hour + ")", Check.BAD_ARGUMENT, () -> x.holding(0, hour));
        }
        check.is("holding(0, 671)", 0, x.holding(0, 671));
    }

    private static void promise12CountsHours() {
        FrostCalendar x = new FrostCalendar();
        x.once(0, 671, 672, 1);
        x.once(0, 0, 672, 1);
        x.daily(0, 0, 20, 4, 1);
        x.daily(0, 0, 4, 20, 1);
        x.daily(0, 0, 7, 7, 1);
        x.feasts(0, 0, 1);
        int[] due = {1, 672, 224, 448, 672, 0};
        for (int number = 0; number < due.length; number++) {
            check.is("hours(" + number + ")", due[number], x.hours(number));
        }
        x.feast(0, 0);
        x.feast(0, 27);
        check.is("two feasts", 48, x.hours(5));
        x.offset(0, 12);
        check.is("of the day 0, half is over", 36, x.hours(5));
        check.is("daily with an offset", 224, x.hours(2));
        x.pass(100);
        check.is("what is over counts", 672, x.hours(1));
    }

    private static void promise12RefusesWhatIsNoMore() {
        FrostCalendar x = new FrostCalendar();
        x.once(0, 0, 10, 1);
        x.once(0, 0, 11, 1);
        x.lift(0);
        for (int freeze : new int[] {0, 2, -1, 19, 20, Integer.MIN_VALUE, Integer.MAX_VALUE}) {
            check.refuses("hours(" + freeze + ")", Check.NO_ELEMENT, () -> x.hours(freeze));
        }
        check.is("hours(1)", 11, x.hours(1));
    }

    private static void promise13FindsSpans() {
        FrostCalendar x = new FrostCalendar();
        check.is("without freezes", 7, x.nextSpan(0, 7, 100));
        x.once(0, 10, 20, 1);
        check.is("ahead of a freeze", 0, x.nextSpan(0, 0, 10));
        check.is("just too long", 20, x.nextSpan(0, 0, 11));
        check.is("from 1", 20, x.nextSpan(0, 1, 10));
        check.is("from its last hour", 20, x.nextSpan(0, 19, 1));
        check.is("from behind it", 20, x.nextSpan(0, 20, 1));
        x.once(0, 25, 30, 1);
        check.is("up to the first", 5, x.nextSpan(0, 5, 5));
        check.is("between both", 20, x.nextSpan(0, 6, 5));
        check.is("ahead of both", 4, x.nextSpan(0, 4, 5));
        check.is("behind both", 30, x.nextSpan(0, 6, 6));
        x.pass(50);
        check.is("a span that is over", 20, x.nextSpan(0, 6, 5));
        x.lift(0);
        check.is("without a lifted one", 5, x.nextSpan(0, 5, 20));
    }

    private static void promise13FindsTheLastSpan() {
        FrostCalendar x = new FrostCalendar();
        check.is("nextSpan(0, 572, 100)", 572, x.nextSpan(0, 572, 100));
        check.is("nextSpan(0, 573, 100)", FrostCalendar.NONE, x.nextSpan(0, 573, 100));
        check.is("nextSpan(0, 671, 1)", 671, x.nextSpan(0, 671, 1));
        check.is("nextSpan(0, 671, 2)", FrostCalendar.NONE, x.nextSpan(0, 671, 2));
        x.daily(0, 0, 8, 0, 1);
        check.is("eight hours a day", 648, x.nextSpan(0, 625, 8));
        check.is("not nine", FrostCalendar.NONE, x.nextSpan(0, 0, 9));
        check.is("the last day is frozen", FrostCalendar.NONE, x.nextSpan(0, 649, 8));
        x.once(0, 0, 672, 1);
        check.is("all is frozen", FrostCalendar.NONE, x.nextSpan(0, 0, 1));
    }

    private static void promise13LooksAtTouchingFreezesAlone() {
        FrostCalendar x = new FrostCalendar();
        x.scope(0);
        x.scope(0);
        x.scope(1);
        x.once(1, 0, 10, 1);
        check.is("of the freeze's scope", 10, x.nextSpan(1, 0, 1));
        check.is("above it", 10, x.nextSpan(0, 0, 1));
        check.is("below it", 10, x.nextSpan(3, 0, 1));
        check.is("beside it", 0, x.nextSpan(2, 0, 1));
    }

    private static void promise13RefusesWhatIsOutOfRange() {
        FrostCalendar x = new FrostCalendar();
        for (int scope : NO_SCOPES) {
            check.refuses("nextSpan(" + scope + ", 0, 1)", Check.NO_INDEX, () -> x.nextSpan(scope, 0, 1));
            check.refuses("nextSpan(" + scope + ", -1, 0)", Check.NO_INDEX, () -> x.nextSpan(scope, -1, 0));
        }
        for (int from : NO_HOURS) {
            check.refuses("nextSpan(0, " + from + ", 1)", Check.BAD_ARGUMENT, () -> x.nextSpan(0, from, 1));
        }
        for (int length : new int[] {0, -1, 101, Integer.MIN_VALUE, Integer.MAX_VALUE}) {
            check.refuses("nextSpan(0, 0, " + length + ")", Check.BAD_ARGUMENT, () -> x.nextSpan(0, 0, length));
        }
    }
}
