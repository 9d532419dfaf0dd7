/** Promises 7 to 13 at their edges: the first and the last hour, the empty and the full. */
public final class FreezesEdgesTest {
    private static final Check check = new Check("FreezesEdgesTest");
    private static final int NONE = -1;

    public static void main(String[] args) {
        promise7FromAndTo();
        promise7WhatIsOver();
        promises7To9TwentyOfOneKind();
        promises7To9TwentyOfAllKinds();
        promises7To9ScopeAndRank();
        promise8Edges();
        promise9Edges();
        promise10HowManyThen();
        promise10ItIsNoMore();
        promise10FreesWhatItFroze();
        promise11Sets();
        promise12Counts();
        promise13SpansOfOneGap();
        promise13SpansToTheLastHour();
        promise13FromItsHourOn();
        promise13EachHourIsFree();
        promise13DoesNotLookAtNow();
        check.close();
    }

    private static Asked fresh() {
        return new Asked(check);
    }

    private static void lay(Asked x, int kind, int due) {
        switch (kind) {
            case 0: x.due(due, "once", 0, 0, 1, 1); break;
            case 1: x.due(due, "daily", 0, 0, 0, 1, 1); break;
            default: x.due(due, "feasts", 0, 0, 1); break;
        }
    }

    private static void isFull(Asked x) {
        x.refused(Check.BAD_STATE, "once", 0, 0, 1, 1);
        x.refused(Check.BAD_STATE, "daily", 0, 0, 0, 1, 1);
        x.refused(Check.BAD_STATE, "feasts", 0, 0, 1);
    }

    private static void promise7FromAndTo() {
        check.promise(7, "in the hours from one to another one, this excluded");
        int[][] pairs = {{0, 1}, {0, 2}, {0, 671}, {0, 672}, {1, 2}, {23, 24}, {23, 25}, {100, 572},
            {670, 671}, {670, 672}, {671, 672}, {1, 671}};
        for (int[] pair : pairs) {
            Asked x = fresh();
            x.due(0, "once", 0, pair[0], pair[1], 1);
            x.due(pair[1] - pair[0], "hours", 0);
            for (int hour : new int[] {0, pair[0] - 1, pair[0], pair[1] - 1, pair[1], 671}) {
                if (hour >= 0 && hour <= 671) {
                    x.due(hour >= pair[0] && hour < pair[1] ? 1 : 0, "holding", 0, hour);
                }
            }
        }
    }

    private static void promise7WhatIsOver() {
        check.promise(7, "from: 0 to 671");
        Asked x = fresh();
        x.passTo(671);
        x.due(0, "once", 0, 0, 1, 1);
        x.due(1, "holding", 0, 0);
        x.due(1, "hours", 0);
    }

    private static void promises7To9TwentyOfOneKind() {
        for (int kind = 0; kind < 3; kind++) {
            check.promise(7 + kind, "IllegalStateException if 20 freezes were laid");
            Asked x = fresh();
            for (int number = 0; number < 20; number++) {
                lay(x, kind, number);
            }
            isFull(x);
            x.done("lift", 0);
            x.done("lift", 19);
            isFull(x);
            Asked lifting = fresh();
            for (int number = 0; number < 20; number++) {
                lay(lifting, kind, number);
                lifting.due(0, "lift", number);
            }
            isFull(lifting);
        }
    }

    private static void promises7To9TwentyOfAllKinds() {
        for (int last = 0; last < 3; last++) {
            check.promise(7 + last, "At most 20 are laid in all, numbered from 0");
            Asked x = fresh();
            for (int number = 0; number < 19; number++) {
                lay(x, (number + last) % 3, number);
            }
            lay(x, last, 19);
            isFull(x);
        }
    }

    private static void promises7To9ScopeAndRank() {
        for (int kind = 0; kind < 3; kind++) {
            check.promise(7 + kind, "A freeze has a scope and a rank, 1 to 3");
            for (int rank = 1; rank <= 3; rank++) {
                Asked x = fresh();
                x.scopesInARow();
                x.done("scope", 0); // 3, beside 1 and 2
                x.done("scope", 1); // 4, beside 2
                x.done("feast", 3, 0);
                switch (kind) {
                    case 0: x.due(0, "once", 2, 5, 6, rank); break;
                    case 1: x.due(0, "daily", 2, 3, 5, 6, rank); break;
                    default: x.due(0, "feasts", 2, 3, rank); break;
                }
                for (int scope = 0; scope <= 4; scope++) {
                    x.due(scope <= 2 ? 1 : 0, "holding", scope, 5);
                }
                x.done("plan", 2, 5, 1, 1);
                for (int stocked = 1; stocked <= 3; stocked++) {
                    x.done("exceptions", stocked, 7);
                }
                x.due(rank, "excuse", 0, 0);
            }
        }
    }

    private static void promise8Edges() {
        check.promise(8, "if the first one is greater than the second one");
        int[][] rows = {
            // first, second, hours a day, at 0, at 1, at 22, at 23 o'clock
            {0, 1, 1, 1, 0, 0, 0}, {1, 0, 23, 0, 1, 1, 1}, {23, 0, 1, 0, 0, 0, 1}, {0, 23, 23, 1, 1, 1, 0},
            {22, 23, 1, 0, 0, 1, 0}, {23, 22, 23, 1, 1, 0, 1}, {23, 1, 2, 1, 0, 0, 1}, {1, 23, 22, 0, 1, 1, 0}};
        for (int[] row : rows) {
            compareDaily(row);
        }
        check.promise(8, "if both are the same, in all hours");
        for (int hour : new int[] {0, 1, 12, 22, 23}) {
            compareDaily(new int[] {hour, hour, 24, 1, 1, 1, 1});
        }
    }

    private static void compareDaily(int[] row) {
        Asked x = fresh();
        x.due(0, "daily", 0, 0, row[0], row[1], 1);
        x.due(28 * row[2], "hours", 0);
        for (int day : new int[] {0, 1, 27}) {
            x.due(row[3], "holding", 0, 24 * day);
            x.due(row[4], "holding", 0, 24 * day + 1);
            x.due(row[5], "holding", 0, 24 * day + 22);
            x.due(row[6], "holding", 0, 24 * day + 23);
        }
    }

    private static void promise9Edges() {
        check.promise(9, "in each hour whose day, in a land, is a feast day of that");
        Asked x = fresh();
        x.due(0, "feasts", 0, 0, 1);
        x.due(0, "hours", 0);
        for (int day = 0; day <= 27; day++) {
            x.done("feast", 0, day);
            x.due(24 * (day + 1), "hours", 0);
            x.due(1, "holding", 0, 24 * day);
            x.due(1, "holding", 0, 24 * day + 23);
            if (day < 27) {
                x.due(0, "holding", 0, 24 * day + 24);
            }
        }
        x.done("offset", 0, -1);
        x.due(671, "hours", 0);
        x.due(0, "holding", 0, 0);
        x.done("feast", 0, -1);
        x.due(672, "hours", 0);
        x.done("offset", 0, 1);
        x.due(671, "hours", 0);
        x.due(0, "holding", 0, 671);
        x.done("feast", 0, 28);
        x.due(672, "hours", 0);
    }

    private static void promise10HowManyThen() {
        check.promise(10, "Returns how many freezes there are then");
        Asked x = fresh();
        for (int number = 0; number < 20; number++) {
            lay(x, number % 3, number);
        }
        int left = 20;
        for (int step = 0; step < 20; step++) {
            left--;
            x.due(left, "lift", step * 7 % 20);
        }
        for (int number = 0; number < 20; number++) {
            x.refused(Check.NO_ELEMENT, "lift", number);
        }
        isFull(x);
        Asked y = fresh();
        lay(y, 0, 0);
        y.due(0, "lift", 0);
        lay(y, 0, 1);
        lay(y, 0, 2);
        y.due(1, "lift", 2);
        y.due(0, "lift", 1);
    }

    private static void promise10ItIsNoMore() {
        check.promise(10, "a freeze can be lifted, then it is no more");
        for (int lifted : new int[] {0, 1, 19}) {
            Asked x = fresh();
            x.done("feast", 0, 0);
            x.done("exceptions", 1, 50);
            x.done("plan", 0, 0, 1, 1);
            for (int number = 0; number < 20; number++) {
                lay(x, number % 3, number);
            }
            int all = (1 << 20) - 1;
            x.due(all, "holding", 0, 0);
            x.due(19, "lift", lifted);
            x.due(all - (1 << lifted), "holding", 0, 0);
            x.due(all - (1 << lifted), "reasons", 0);
            x.refused(Check.NO_ELEMENT, "lift", lifted);
            x.refused(Check.NO_ELEMENT, "hours", lifted);
            x.refused(Check.NO_ELEMENT, "excuse", 0, lifted);
        }
    }

    private static void promise10FreesWhatItFroze() {
        check.promise(10, "Lifts a freeze");
        Asked x = fresh();
        x.done("once", 0, 0, 672, 1);
        x.done("plan", 0, 0, 100, 1);
        x.done("approve", 0);
        x.due(NONE, "nextSpan", 0, 0, 1);
        x.due(100, "badHours", 0);
        x.refused(Check.BAD_STATE, "begin", 0);
        x.due(0, "lift", 0);
        x.due(0, "nextSpan", 0, 0, 1);
        x.due(0, "badHours", 0);
        x.due(0, "badHoursOneByOne", 0);
        x.due(NONE, "firstBad", 0);
        x.due(0, "reasons", 0);
        x.due(100, "begin", 0);
    }

    private static void promise11Sets() {
        check.promise(11, "Returns the set, bit k for the freeze k");
        Asked x = fresh();
        x.due(0, "holding", 0, 0);
        x.due(0, "holding", 0, 671);
        for (int number = 0; number < 20; number++) {
            x.done("once", 0, 10 * number, 10 * number + 1, 1);
            x.due(1 << number, "holding", 0, 10 * number);
        }
        Asked y = fresh();
        int set = 0;
        for (int number = 0; number < 20; number++) {
            y.done("once", 0, 0, 672, 1);
            set |= 1 << number;
            y.due(set, "holding", 0, 0);
            y.due(set, "holding", 0, 671);
        }
        for (int number = 0; number < 20; number++) {
            y.done("lift", number);
            set &= ~(1 << number);
            y.due(set, "holding", 0, 0);
            y.due(set, "holding", 0, 671);
        }
    }

    private static void promise12Counts() {
        check.promise(12, "Returns 0 to 672");
        Asked x = fresh();
        x.done("feasts", 0, 0, 1);
        x.done("once", 0, 0, 1, 1);
        x.done("once", 0, 671, 672, 1);
        x.done("once", 0, 1, 672, 1);
        x.done("once", 0, 0, 671, 1);
        x.done("once", 0, 0, 672, 1);
        x.done("daily", 0, 0, 23, 23, 1);
        int[] due = {0, 1, 1, 671, 671, 672, 672};
        for (int now : new int[] {0, 671}) {
            x.passTo(now);
            for (int number = 0; number < due.length; number++) {
                x.due(due[number], "hours", number);
            }
        }
    }

    /** Free are the hours from 100 to below 100 + gap alone. */
    private static Asked withGap(int gap) {
        Asked x = fresh();
        x.done("once", 0, 0, 100, 1);
        x.done("once", 0, 100 + gap, 672, 1);
        return x;
    }

    private static void promise13SpansOfOneGap() {
        check.promise(13, "in no hour of which a freeze that touches a scope holds");
        for (int length : new int[] {1, 2, 50, 99, 100}) {
            withGap(length).due(100, "nextSpan", 0, 0, length);
            withGap(length).due(100, "nextSpan", 0, 100, length);
            withGap(length).due(NONE, "nextSpan", 0, 101, length);
            withGap(length + 1).due(101, "nextSpan", 0, 101, length);
            withGap(length + 1).due(NONE, "nextSpan", 0, 102, length);
            if (length > 1) {
                withGap(length - 1).due(NONE, "nextSpan", 0, 0, length);
            }
        }
    }

    private static void promise13SpansToTheLastHour() {
        check.promise(13, "NONE if there is no such span");
        for (int length : new int[] {1, 2, 50, 99, 100}) {
            Asked x = fresh();
            x.due(672 - length, "nextSpan", 0, 672 - length, length);
            if (length > 1) {
                x.due(NONE, "nextSpan", 0, 673 - length, length);
                x.due(NONE, "nextSpan", 0, 671, length);
            }
            x.done("once", 0, 0, 672 - length, 1);
            x.due(672 - length, "nextSpan", 0, 0, length);
            x.done("once", 0, 671, 672, 1);
            x.due(NONE, "nextSpan", 0, 0, length);
            Asked y = fresh();
            y.done("once", 0, 0, 673 - length, 1);
            y.due(NONE, "nextSpan", 0, 0, length);
        }
        Asked frozen = fresh();
        frozen.done("daily", 0, 0, 5, 5, 1);
        frozen.due(NONE, "nextSpan", 0, 0, 1);
        frozen.due(NONE, "nextSpan", 0, 671, 1);
        frozen.due(NONE, "nextSpan", 0, 0, 100);
    }

    private static void promise13FromItsHourOn() {
        check.promise(13, "the first hour of the first span, from an hour on");
        Asked x = fresh();
        for (int from : new int[] {0, 1, 335, 571, 572}) {
            x.due(from, "nextSpan", 0, from, 100);
        }
        x.done("once", 0, 10, 12, 1);
        x.due(0, "nextSpan", 0, 0, 10);
        x.due(12, "nextSpan", 0, 1, 10);
        x.due(9, "nextSpan", 0, 9, 1);
        x.due(12, "nextSpan", 0, 9, 2);
        x.due(12, "nextSpan", 0, 10, 1);
        x.due(12, "nextSpan", 0, 11, 1);
        x.due(12, "nextSpan", 0, 12, 1);
        x.due(13, "nextSpan", 0, 13, 1);
    }

    private static void promise13EachHourIsFree() {
        check.promise(13, "a span from an hour on with a length has that many hours");
        Asked x = fresh();
        x.scopesInARow();
        x.done("once", 1, 5, 6, 1);
        x.done("daily", 0, 0, 8, 9, 2);
        x.done("once", 2, 30, 31, 3);
        x.done("feasts", 1, 3, 1);
        x.done("feast", 3, 3);
        x.due(0, "nextSpan", 1, 0, 5);
        x.due(9, "nextSpan", 1, 0, 6);
        x.due(9, "nextSpan", 1, 0, 21);
        x.due(33, "nextSpan", 1, 0, 23);
        x.due(NONE, "nextSpan", 1, 0, 24);
        x.due(105, "nextSpan", 1, 57, 23);
        x.done("lift", 1);
        x.due(96, "nextSpan", 1, 0, 100);
        x.due(31, "nextSpan", 1, 0, 41);
        x.due(6, "nextSpan", 1, 0, 24);
    }

    private static void promise13DoesNotLookAtNow() {
        check.promise(13, "from: 0 to 671");
        Asked x = fresh();
        x.done("once", 0, 50, 60, 1);
        x.passTo(671);
        x.due(0, "nextSpan", 0, 0, 50);
        x.due(60, "nextSpan", 0, 0, 51);
        x.due(671, "nextSpan", 0, 671, 1);
    }
}
