/** Promises 1 to 6 at their edges: the new, the empty and the full, the first and the last. */
public final class ScopesLandsTimeEdgesTest {
    private static final Check check = new Check("ScopesLandsTimeEdgesTest");

    public static void main(String[] args) {
        promise1ScopeZeroAlone();
        promise1HourOfNow();
        promise1LandsAtFirst();
        promise1NothingElse();
        promise1Constants();
        promise2Numbers();
        promise2Full();
        promise3OffsetBefore();
        promise4Turns();
        promise4DaysOfTheirOwn();
        promise5AtMost671();
        promise5HourThen();
        promise6Now();
        check.close();
    }

    private static Asked fresh() {
        return new Asked(check);
    }

    private static void promise1ScopeZeroAlone() {
        check.promise(1, "Makes a calendar with the scope 0 alone");
        fresh().due(1, "scope", 0);
        fresh().due(0, "once", 0, 0, 1, 1);
        fresh().due(0, "daily", 0, 0, 0, 1, 1);
        fresh().due(0, "feasts", 0, 0, 1);
        fresh().due(0, "holding", 0, 0);
        fresh().due(0, "nextSpan", 0, 0, 1);
        fresh().due(0, "plan", 0, 0, 1, 1);
        for (int scope = 1; scope < 16; scope++) {
            fresh().refused(Check.NO_INDEX, "scope", scope);
            fresh().refused(Check.NO_INDEX, "once", scope, 0, 1, 1);
            fresh().refused(Check.NO_INDEX, "daily", scope, 0, 0, 1, 1);
            fresh().refused(Check.NO_INDEX, "feasts", scope, 0, 1);
            fresh().refused(Check.NO_INDEX, "holding", scope, 0);
            fresh().refused(Check.NO_INDEX, "nextSpan", scope, 0, 1);
            fresh().refused(Check.NO_INDEX, "plan", scope, 0, 1, 1);
        }
    }

    private static void promise1HourOfNow() {
        check.promise(1, "the hour of now is 0");
        fresh().due(0, "now");
        fresh().due(1, "pass", 1);
        Asked x = fresh();
        x.due(0, "plan", 0, 0, 1, 1);
        x.due(1, "approve", 0);
        x.due(1, "begin", 0);
    }

    private static void promise1LandsAtFirst() {
        check.promise(1, "each with an offset, -11 to 12, 0 at first; A land has feast days, none at first");
        for (int land = 0; land <= 3; land++) {
            fresh().due(0, "offset", land, 12);
            Asked x = fresh();
            x.done("feasts", 0, land, 1);
            for (int offset : new int[] {-11, 0, 12}) {
                x.done("offset", land, offset);
                x.due(0, "hours", 0);
            }
            for (int day = -1; day <= 28; day++) {
                x.due(1, "feast", land, day);
            }
        }
    }

    private static void promise1NothingElse() {
        check.promise(1, "For each rank 1 to 3 there is a number of exceptions, 0 at first");
        for (int rank = 1; rank <= 3; rank++) {
            fresh().due(0, "left", rank);
            fresh().due(0, "exceptions", rank, 50);
            Asked x = fresh();
            x.done("once", 0, 0, 1, rank);
            x.done("plan", 0, 0, 1, 1);
            x.refused(Check.BAD_STATE, "excuse", 0, 0);
        }
        check.promise(1, "Makes a calendar with the scope 0 alone");
        Asked x = fresh();
        for (int hour : new int[] {0, 1, 335, 670, 671}) {
            x.due(0, "holding", 0, hour);
        }
        for (int freeze = 0; freeze < 20; freeze++) {
            x.refused(Check.NO_ELEMENT, "hours", freeze);
            x.refused(Check.NO_ELEMENT, "lift", freeze);
        }
        for (int change = 0; change < 30; change++) {
            x.refused(Check.NO_INDEX, "state", change);
            x.refused(Check.NO_INDEX, "approve", change);
            x.refused(Check.NO_INDEX, "begin", change);
            x.refused(Check.NO_INDEX, "move", change, 0);
            x.refused(Check.NO_INDEX, "badHours", change);
        }
    }

    private static void promise1Constants() {
        check.promise(1, "NONE = -1; PLANNED = 0, BEGUN = 1, DONE = 2");
        check.is("NONE", -1, FrostCalendar.NONE);
        check.is("PLANNED", 0, FrostCalendar.PLANNED);
        check.is("BEGUN", 1, FrostCalendar.BEGUN);
        check.is("DONE", 2, FrostCalendar.DONE);
    }

    private static void promise2Numbers() {
        check.promise(2, "There are at most 16, numbered from 0; Returns its number");
        Asked x = fresh();
        for (int number = 1; number < 16; number++) {
            x.refused(Check.NO_INDEX, "scope", number);
            x.refused(Check.NO_INDEX, "scope", -1);
            x.due(number, "scope", number - 1);
        }
    }

    private static void promise2Full() {
        check.promise(2, "IllegalStateException if there are 16 scopes");
        Asked x = fresh();
        for (int number = 1; number < 16; number++) {
            x.due(number, "scope", 0);
        }
        for (int above = 0; above < 16; above++) {
            x.refused(Check.BAD_STATE, "scope", above);
        }
        for (int scope = 0; scope < 16; scope++) {
            x.due(0, "holding", scope, 0);
            x.due(scope, "plan", scope, 0, 1, 1);
        }
        x.refused(Check.NO_INDEX, "holding", 16, 0);
    }

    private static void promise3OffsetBefore() {
        check.promise(3, "Returns the offset before");
        for (int land = 0; land <= 3; land++) {
            Asked x = fresh();
            int before = 0;
            for (int offset = -11; offset <= 12; offset++) {
                x.due(before, "offset", land, offset);
                x.due(offset, "offset", land, offset);
                before = offset;
            }
            x.due(12, "offset", land, -11);
            x.due(-11, "offset", land, 0);
            for (int other = 0; other <= 3; other++) {
                x.due(0, "offset", other, 0);
            }
        }
    }

    private static void promise4Turns() {
        check.promise(4, "Makes a day a feast day of a land, or, if it is one, takes that back");
        for (int land = 0; land <= 3; land++) {
            for (int day : new int[] {-1, 0, 1, 27, 28}) {
                Asked x = fresh();
                x.due(1, "feast", land, day);
                x.due(0, "feast", land, day);
                x.due(1, "feast", land, day);
                x.due(0, "feast", land, day);
            }
        }
    }

    private static void promise4DaysOfTheirOwn() {
        check.promise(4, "Returns whether it is a feast day then");
        for (int turned = -1; turned <= 28; turned++) {
            Asked x = fresh();
            x.due(1, "feast", 2, turned);
            for (int land = 0; land <= 3; land++) {
                for (int day = -1; day <= 28; day++) {
                    x.due(land == 2 && day == turned ? 0 : 1, "feast", land, day);
                }
            }
        }
    }

    private static void promise5AtMost671() {
        check.promise(5, "IllegalStateException if it would be above 671");
        for (int now = 0; now <= 671; now += now < 560 ? 80 : 1) {
            int least = 672 - now;
            for (int hours = Math.max(1, least - 1); hours <= 100; hours += hours < least ? 1 : 20) {
                Asked x = fresh();
                x.passTo(now);
                if (hours < least) {
                    x.due(now + hours, "pass", hours);
                } else {
                    x.refused(Check.BAD_STATE, "pass", hours);
                    x.due(now, "now");
                }
            }
        }
    }

    private static void promise5HourThen() {
        check.promise(5, "Lets hours go by; Returns the hour of now then");
        Asked x = fresh();
        x.due(100, "pass", 100);
        x.due(101, "pass", 1);
        x.due(201, "pass", 100);
        Asked y = fresh();
        for (int hundred = 1; hundred <= 6; hundred++) {
            y.due(100 * hundred, "pass", 100);
        }
        y.refused(Check.BAD_STATE, "pass", 72);
        y.due(671, "pass", 71);
        y.refused(Check.BAD_STATE, "pass", 1);
        y.due(671, "now");
    }

    private static void promise6Now() {
        check.promise(6, "Returns the hour of now");
        Asked x = fresh();
        for (int hour = 0; hour < 250; hour++) {
            x.due(hour, "now");
            x.due(hour + 1, "pass", 1);
        }
        Asked y = fresh();
        y.passTo(671);
        y.due(671, "now");
        y.due(671, "now");
    }
}
