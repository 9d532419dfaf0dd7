/** Promises 14 to 19 at their edges: the first and the last hour, rank, change, state. */
public final class ChangesEdgesTest {
    private static final Check check = new Check("ChangesEdgesTest");
    private static final int PLANNED = FrostCalendar.PLANNED, BEGUN = FrostCalendar.BEGUN, DONE = FrostCalendar.DONE;

    public static void main(String[] args) {
        promise14AtMostThirty();
        promise14WhatEndedCounts();
        promise14PlannedAtFirst();
        promise14SpanAndScope();
        promise14FreezesDoNotHinder();
        promise15ToTheHourThatItHas();
        promise15ToAnotherHour();
        promise15LengthStays();
        promise15BadHoursThen();
        promise15NotPlanned();
        promise16OneBehindTheOther();
        promise16NotPlanned();
        promise17HourBehind();
        promise17TheHourItself();
        promise17Approvals();
        promise17BadHours();
        promise17NotPlanned();
        promise18States();
        promise18PlannedForEver();
        promise18LastHours();
        promise19Ranks();
        check.close();
    }

    private static Asked fresh() {
        return new Asked(check);
    }

    private static void promise14AtMostThirty() {
        check.promise(14, "At most 30, numbered from 0; IllegalStateException if there are 30 changes");
        Asked x = fresh();
        for (int number = 0; number < 30; number++) {
            x.refused(Check.NO_INDEX, "state", number);
            x.due(number, "plan", 0, number, 1, 1 + number % 3);
        }
        x.refused(Check.BAD_STATE, "plan", 0, 0, 1, 1);
        x.refused(Check.BAD_STATE, "plan", 0, 671, 1, 3);
        x.refused(Check.NO_INDEX, "state", 30);
        x.due(0, "approved", 29);
    }

    private static void promise14WhatEndedCounts() {
        check.promise(14, "IllegalStateException if there are 30 changes");
        Asked x = fresh();
        for (int number = 0; number < 30; number++) {
            check.is("a change of the hour " + number, number, x.begun(0, 1));
            x.done("pass", 1);
            x.due(DONE, "state", number);
        }
        x.refused(Check.BAD_STATE, "plan", 0, 30, 1, 1);
    }

    private static void promise14PlannedAtFirst() {
        check.promise(14, "It is PLANNED at first");
        for (int risk = 1; risk <= 3; risk++) {
            Asked x = fresh();
            x.due(0, "plan", 0, 0, 1, risk);
            x.due(PLANNED, "state", 0);
            x.due(0, "approved", 0);
        }
        check.promise(14, "from which it is not excused");
        Asked x = fresh();
        x.done("once", 0, 0, 1, 1);
        x.due(0, "plan", 0, 0, 1, 1);
        x.due(1, "reasons", 0);
    }

    private static void promise14SpanAndScope() {
        check.promise(14, "each with a scope, a span, and a risk");
        for (int length : new int[] {1, 2, 99, 100}) {
            for (int from : new int[] {0, 1, 671 - length, 672 - length}) {
                Asked x = fresh();
                x.scopesInARow();
                x.done("once", 1, 0, 672, 1);
                x.due(0, "plan", 2, from, length, 1);
                x.due(length, "badHours", 0);
                x.due(from, "firstBad", 0);
                x.done("lift", 0);
                x.done("once", 0, from + length - 1, from + length, 1);
                x.due(from + length - 1, "firstBad", 0);
                x.done("lift", 1);
                x.done("once", 0, 0, Math.max(1, from), 1);
                x.due(from == 0 ? 1 : 0, "badHours", 0);
                x.passTo(from);
                x.done("lift", 2);
                x.due(1, "approve", 0);
                x.due(from + length, "begin", 0);
            }
        }
    }

    private static void promise14FreezesDoNotHinder() {
        check.promise(14, "Plans a change");
        Asked x = fresh();
        x.done("once", 0, 0, 672, 3);
        x.due(0, "plan", 0, 0, 100, 1);
        x.due(100, "badHours", 0);
    }

    /** Approved twice and excused from both freezes, in the hours 10 to 19. */
    private static Asked approvedAndExcused() {
        Asked x = fresh();
        x.done("once", 0, 12, 14, 1);
        x.done("once", 0, 16, 30, 2);
        x.done("exceptions", 1, 5);
        x.done("exceptions", 2, 5);
        x.done("plan", 0, 10, 10, 2);
        x.done("approve", 0);
        x.done("approve", 0);
        x.done("excuse", 0, 0);
        x.done("excuse", 0, 1);
        x.due(0, "badHours", 0);
        return x;
    }

    private static void promise15ToTheHourThatItHas() {
        check.promise(15, "A change that is moved, be it to the hour that it has, loses all approvals and excuses");
        for (int now : new int[] {0, 9, 10}) {
            Asked x = approvedAndExcused();
            x.passTo(now);
            x.due(6, "move", 0, 10);
            x.due(0, "approved", 0);
            x.due(3, "reasons", 0);
            x.due(6, "badHours", 0);
            x.due(PLANNED, "state", 0);
            x.due(4, "left", 1);
            x.due(4, "left", 2);
            x.due(1, "excuse", 0, 0);
            x.due(2, "excuse", 0, 1);
            x.due(1, "approve", 0);
            x.due(2, "approve", 0);
        }
    }

    private static void promise15ToAnotherHour() {
        check.promise(15, "A change that is moved, be it to the hour that it has, loses all approvals and excuses");
        Asked x = approvedAndExcused();
        x.done("plan", 0, 12, 1, 1);
        x.done("approve", 1);
        x.done("excuse", 1, 0);
        x.due(0, "move", 0, 30);
        x.due(0, "approved", 0);
        x.due(10, "move", 0, 20);
        x.due(2, "reasons", 0);
        x.due(1, "approved", 1);
        x.due(0, "reasons", 1);
    }

    private static void promise15LengthStays() {
        check.promise(15, "Moves a change to an hour; its length stays");
        for (int length : new int[] {1, 2, 99, 100}) {
            Asked x = fresh();
            x.done("plan", 0, 5, length, 1);
            x.due(0, "move", 0, 672 - length);
            x.refused(Check.BAD_ARGUMENT, "move", 0, 673 - length);
            x.due(0, "move", 0, 0);
            x.done("once", 0, 0, 672, 1);
            x.due(length, "move", 0, 1);
            x.due(1, "firstBad", 0);
            x.done("lift", 0);
            x.done("pass", 1);
            x.done("approve", 0);
            x.due(1 + length, "begin", 0);
        }
    }

    private static void promise15BadHoursThen() {
        check.promise(15, "Returns how many bad hours it has then");
        Asked x = fresh();
        x.done("once", 0, 10, 20, 1);
        x.done("once", 0, 15, 30, 1);
        x.done("plan", 0, 500, 5, 1);
        int[] hours = {0, 5, 6, 9, 10, 15, 25, 26, 29, 30, 667};
        int[] due = {0, 0, 1, 4, 5, 5, 5, 4, 1, 0, 0};
        for (int place = 0; place < hours.length; place++) {
            x.due(due[place], "move", 0, hours[place]);
            x.due(due[place], "badHours", 0);
        }
        check.promise(15, "from: the first hour of its span then, not ahead of now");
        x.done("move", 0, 0);
        x.passTo(29);
        x.due(PLANNED, "state", 0);
        x.refused(Check.BAD_ARGUMENT, "move", 0, 0);
        x.refused(Check.BAD_ARGUMENT, "move", 0, 28);
        x.due(1, "move", 0, 29);
    }

    private static void promise15NotPlanned() {
        check.promise(15, "IllegalStateException if it is not PLANNED");
        Asked x = fresh();
        x.begun(0, 2);
        x.due(BEGUN, "state", 0);
        x.refused(Check.BAD_STATE, "move", 0, 0);
        x.refused(Check.BAD_STATE, "move", 0, 670);
        x.done("pass", 1);
        x.refused(Check.BAD_STATE, "move", 0, 1);
        x.done("pass", 1);
        x.due(DONE, "state", 0);
        x.refused(Check.BAD_STATE, "move", 0, 2);
        x.due(1, "approved", 0);
    }

    private static void promise16OneBehindTheOther() {
        check.promise(16, "approved by the ranks 1, 2 and so on, one behind the other, up to its risk");
        for (int risk = 1; risk <= 3; risk++) {
            Asked x = fresh();
            x.done("plan", 0, 0, 1, risk);
            for (int rank = 1; rank <= risk; rank++) {
                x.due(rank, "approve", 0);
                x.due(rank, "approved", 0);
            }
            x.refused(Check.BAD_STATE, "approve", 0);
            x.refused(Check.BAD_STATE, "approve", 0);
            x.due(risk, "approved", 0);
            x.due(0, "move", 0, 0);
            x.due(1, "approve", 0);
        }
        check.promise(16, "Approves a change by the next rank");
        Asked x = fresh();
        x.done("once", 0, 0, 672, 3);
        x.done("plan", 0, 0, 100, 3);
        x.done("plan", 0, 0, 1, 3);
        x.due(1, "approve", 0);
        x.due(1, "approve", 1);
        x.due(2, "approve", 0);
        x.passTo(671);
        x.due(2, "approve", 1);
        x.due(3, "approve", 0);
        x.due(3, "approve", 1);
    }

    private static void promise16NotPlanned() {
        check.promise(16, "IllegalStateException if it is not PLANNED, or approved up to its risk");
        for (int risk = 1; risk <= 3; risk++) {
            Asked x = fresh();
            x.done("plan", 0, 0, 2, risk);
            for (int rank = 1; rank <= risk; rank++) {
                x.done("approve", 0);
            }
            x.refused(Check.BAD_STATE, "approve", 0);
            x.done("begin", 0);
            x.refused(Check.BAD_STATE, "approve", 0);
            x.done("pass", 2);
            x.due(DONE, "state", 0);
            x.refused(Check.BAD_STATE, "approve", 0);
            x.due(risk, "approved", 0);
        }
    }

    private static void promise17HourBehind() {
        check.promise(17, "Returns the first hour behind its span");
        for (int length : new int[] {1, 2, 99, 100}) {
            for (int from : new int[] {0, 1, 671 - length, 672 - length}) {
                Asked x = fresh();
                x.passTo(from);
                x.done("plan", 0, from, length, 1);
                x.done("approve", 0);
                x.due(from + length, "begin", 0);
                x.due(BEGUN, "state", 0);
            }
        }
    }

    private static void promise17TheHourItself() {
        check.promise(17, "now is not the first hour of its span");
        for (int now : new int[] {0, 4, 6, 7, 14, 15, 671}) {
            Asked x = fresh();
            x.done("plan", 0, 5, 10, 1);
            x.done("approve", 0);
            x.passTo(now);
            x.refused(Check.BAD_STATE, "begin", 0);
            x.due(PLANNED, "state", 0);
        }
        Asked x = fresh();
        x.done("plan", 0, 5, 10, 1);
        x.done("approve", 0);
        x.passTo(5);
        x.due(15, "begin", 0);
    }

    private static void promise17Approvals() {
        check.promise(17, "it is not approved up to its risk");
        for (int risk = 1; risk <= 3; risk++) {
            Asked x = fresh();
            x.done("plan", 0, 0, 1, risk);
            for (int rank = 1; rank <= risk; rank++) {
                x.refused(Check.BAD_STATE, "begin", 0);
                x.done("approve", 0);
            }
            x.done("move", 0, 0);
            x.refused(Check.BAD_STATE, "begin", 0);
            for (int rank = 1; rank <= risk; rank++) {
                x.refused(Check.BAD_STATE, "begin", 0);
                x.done("approve", 0);
            }
            x.due(1, "begin", 0);
        }
    }

    private static void promise17BadHours() {
        check.promise(17, "A change is let through if it has no bad hours");
        for (int hour : new int[] {9, 10, 11, 18, 19, 20}) {
            Asked x = fresh();
            x.done("once", 0, hour, hour + 1, 2);
            x.passTo(10);
            x.done("plan", 0, 10, 10, 1);
            x.done("approve", 0);
            if (hour == 9 || hour == 20) {
                x.due(20, "begin", 0);
            } else {
                x.refused(Check.BAD_STATE, "begin", 0);
                x.done("exceptions", 3, 1);
                x.due(3, "excuse", 0, 0);
                x.due(20, "begin", 0);
            }
        }
        Asked x = fresh();
        x.done("exceptions", 1, 9);
        x.done("plan", 0, 0, 10, 1);
        x.done("approve", 0);
        for (int freeze = 0; freeze < 3; freeze++) {
            x.done("once", 0, 3 * freeze, 3 * freeze + 3, 1);
        }
        for (int freeze = 2; freeze >= 0; freeze--) {
            x.refused(Check.BAD_STATE, "begin", 0);
            x.done("excuse", 0, freeze);
        }
        x.due(10, "begin", 0);
    }

    private static void promise17NotPlanned() {
        check.promise(17, "IllegalStateException if it is not PLANNED");
        Asked x = fresh();
        x.begun(0, 1);
        x.refused(Check.BAD_STATE, "begin", 0);
        x.done("pass", 1);
        x.due(DONE, "state", 0);
        x.refused(Check.BAD_STATE, "begin", 0);
        x.due(DONE, "state", 0);
    }

    private static void promise18States() {
        check.promise(18, "A change that has BEGUN is DONE when its span is over");
        for (int length : new int[] {1, 2, 99, 100}) {
            Asked x = fresh();
            x.passTo(7);
            x.done("plan", 0, 7, length, 1);
            x.due(PLANNED, "state", 0);
            x.done("approve", 0);
            x.due(PLANNED, "state", 0);
            x.done("begin", 0);
            x.due(BEGUN, "state", 0);
            x.passTo(7 + length - 1);
            x.due(BEGUN, "state", 0);
            x.passTo(7 + length);
            x.due(DONE, "state", 0);
            x.passTo(671);
            x.due(DONE, "state", 0);
        }
    }

    private static void promise18PlannedForEver() {
        check.promise(18, "Returns PLANNED, BEGUN or DONE");
        Asked x = fresh();
        x.done("plan", 0, 0, 1, 1);
        x.done("plan", 0, 5, 10, 1);
        x.done("approve", 1);
        for (int now : new int[] {0, 1, 5, 14, 15, 16, 671}) {
            x.passTo(now);
            x.due(PLANNED, "state", 0);
            x.due(PLANNED, "state", 1);
        }
    }

    private static void promise18LastHours() {
        // Now can't get behind the hour 671, so a span that ends with it is never over.
        check.promise(18, "A change that has BEGUN is DONE when its span is over");
        for (int length : new int[] {1, 2, 99, 100}) {
            Asked x = fresh();
            x.passTo(671 - length);
            x.begun(0, length);
            x.done("pass", 1);
            x.begun(0, length);
            x.passTo(671);
            x.due(DONE, "state", 0);
            x.due(BEGUN, "state", 1);
        }
    }

    private static void promise19Ranks() {
        check.promise(19, "Returns the rank; 0 for none");
        for (int risk = 1; risk <= 3; risk++) {
            Asked x = fresh();
            x.done("plan", 0, 1, 1, risk);
            x.done("plan", 0, 1, 1, 3);
            for (int rank = 0; rank < risk; rank++) {
                x.due(rank, "approved", 0);
                x.done("approve", 0);
            }
            x.due(risk, "approved", 0);
            x.due(0, "approved", 1);
            x.done("pass", 1);
            x.done("begin", 0);
            x.due(risk, "approved", 0);
            x.done("pass", 1);
            x.due(DONE, "state", 0);
            x.due(risk, "approved", 0);
            x.done("approve", 1);
            x.done("move", 1, 2);
            x.due(0, "approved", 1);
        }
    }
}
