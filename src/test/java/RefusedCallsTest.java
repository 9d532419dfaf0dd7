import java.util.function.Consumer;

/**
 * "A call that throws an exception changes nothing", for each call and each of its exceptions: of two
 * objects that were led the same way, one is asked in vain; then both must tell the same of themselves.
 */
public final class RefusedCallsTest {
    private static final Check check = new Check("RefusedCallsTest");
    private static final String WORDS = "a call that throws an exception changes nothing";
    private static final Consumer<Asked> AS_IT_IS = x -> { };

    /** Numbers of the busy calendar's changes and freezes. */
    private static final int DONE = 0, BEGUN = 1, APPROVED = 2, EARLY = 3, MISSED = 4, FROZEN = 5, NO_CHANGE = 6;
    private static final int STANDING = 0, LIFTED = 3, BESIDE = 4, LAID_BEHIND = 5, NO_FREEZE = 6;

    public static void main(String[] args) {
        scopesLandsTime();
        freezes();
        changes();
        exceptions();
        judgements();
        theFull();
        check.close();
    }

    // ---- how the objects are led and what they tell

    /** At the hour 10, with something of everything. */
    private static Asked busy() {
        Asked x = new Asked(check);
        x.done("scope", 0); // 1
        x.done("scope", 0); // 2
        x.done("scope", 1); // 3
        x.done("offset", 1, 5);
        x.done("feast", 1, 2);
        x.done("feast", 2, -1);
        x.done("exceptions", 1, 2);
        x.done("exceptions", 2, 1);
        x.done("exceptions", 3, 1);
        x.done("once", 0, 30, 40, 1); // STANDING
        x.done("daily", 1, 1, 22, 4, 2); // 1
        x.done("feasts", 3, 1, 3); // 2
        x.done("once", 3, 0, 5, 1); // LIFTED
        x.done("lift", LIFTED);
        x.done("once", 2, 12, 20, 2); // BESIDE
        x.begun(1, 1); // DONE
        x.passTo(10);
        x.begun(1, 5); // BEGUN
        x.done("once", 1, 11, 13, 1); // LAID_BEHIND
        x.done("plan", 1, 10, 1, 2); // APPROVED
        x.done("approve", APPROVED);
        x.done("approve", APPROVED);
        x.done("plan", 3, 11, 30, 2); // EARLY
        x.done("approve", EARLY);
        x.done("excuse", EARLY, STANDING);
        x.done("plan", 0, 10, 2, 1); // MISSED, once it is later
        x.done("approve", MISSED);
        x.done("plan", 0, 10, 6, 1); // FROZEN
        x.done("approve", FROZEN);
        return x;
    }

    /** All there can be: 16 scopes, 20 freezes (one lifted), 30 changes, the hour 671. */
    private static Asked full() {
        Asked x = new Asked(check);
        for (int scope = 1; scope < 16; scope++) {
            x.done("scope", scope / 2);
        }
        for (int freeze = 0; freeze < 20; freeze++) {
            x.done("once", freeze / 2, freeze * 30, freeze * 30 + 50, 1 + freeze % 3);
        }
        x.done("lift", 10);
        x.passTo(671);
        for (int change = 0; change < 30; change++) {
            x.done("plan", change / 2, 671, 1, 1);
        }
        return x;
    }

    /** All that can be seen from outside; the object is of no use behind that. */
    private static String told(Asked x, int scopes, int freezes, int changes) {
        StringBuilder told = new StringBuilder();
        tell(told, x, "now");
        for (int change = 0; change <= changes; change++) {
            for (String call : new String[] {"state", "approved", "reasons", "badHours", "firstBad"}) {
                tell(told, x, call, change);
            }
        }
        for (int freeze = 0; freeze <= freezes; freeze++) {
            tell(told, x, "hours", freeze);
        }
        // It tells which of the changes count as begun.
        tell(told, x, "once", 0, 0, 672, 1);
        for (int change = 0; change < Math.min(7, changes + 1); change++) {
            tell(told, x, "reasons", change);
            tell(told, x, "begin", change);
        }
        for (int scope = 0; scope <= scopes; scope++) {
            tell(told, x, "nextSpan", scope, 0, 8);
            tell(told, x, "holding", scope, 30);
        }
        for (int rank = 1; rank <= 3; rank++) {
            tell(told, x, "left", rank);
            tell(told, x, "exceptions", rank, 50);
        }
        for (int land = 0; land <= 3; land++) {
            tell(told, x, "offset", land, 0);
            for (int day = -1; day <= 28; day++) {
                tell(told, x, "feast", land, day);
            }
        }
        for (int change = 0; change < Math.min(6, changes); change++) {
            for (int freeze = 0; freeze < 7; freeze++) {
                tell(told, x, "excuse", change, freeze);
            }
            tell(told, x, "approve", change);
            tell(told, x, "move", change, 671);
            tell(told, x, "move", change, 30);
        }
        tell(told, x, "scope", scopes - 1);
        tell(told, x, "once", 0, 0, 1, 1);
        tell(told, x, "plan", 0, 671, 1, 1);
        tell(told, x, "lift", freezes - 1);
        tell(told, x, "pass", 1);
        return told.toString();
    }

    private static void tell(StringBuilder told, Asked x, String call, int... a) {
        told.append(Asked.text(call, a)).append(" = ").append(x.outcome(call, a)).append("; ");
    }

    private static String toldByBusy(Asked x) {
        return told(x, 4, 6, 6);
    }

    private static String toldByFull(Asked x) {
        return told(x, 16, 20, 30);
    }

    private static void refused(int promise, Consumer<Asked> ledOn, Class<?> due, String call, int... a) {
        check.promise(promise, WORDS);
        Asked x = busy();
        Asked untouched = busy();
        ledOn.accept(x);
        ledOn.accept(untouched);
        x.refused(due, call, a);
        check.compare("what is told behind " + Asked.text(call, a), toldByBusy(untouched), toldByBusy(x));
    }

    private static void refusedByFull(int promise, Class<?> due, String call, int... a) {
        check.promise(promise, WORDS);
        Asked x = full();
        x.refused(due, call, a);
        check.compare("what is told behind " + Asked.text(call, a), toldByFull(full()), toldByFull(x));
    }

    private static void noIndex(int promise, String call, int... a) {
        refused(promise, AS_IT_IS, Check.NO_INDEX, call, a);
    }

    private static void badArgument(int promise, String call, int... a) {
        refused(promise, AS_IT_IS, Check.BAD_ARGUMENT, call, a);
    }

    private static void badState(int promise, String call, int... a) {
        refused(promise, AS_IT_IS, Check.BAD_STATE, call, a);
    }

    private static void noElement(int promise, String call, int... a) {
        refused(promise, AS_IT_IS, Check.NO_ELEMENT, call, a);
    }

    // ---- the promises

    private static void scopesLandsTime() {
        noIndex(2, "scope", 4);
        noIndex(2, "scope", -1);
        noIndex(3, "offset", -1, 3);
        noIndex(3, "offset", 4, 3);
        badArgument(3, "offset", 1, -12);
        badArgument(3, "offset", 1, 13);
        noIndex(4, "feast", -1, 3);
        noIndex(4, "feast", 4, 3);
        badArgument(4, "feast", 1, -2);
        badArgument(4, "feast", 1, 29);
        badArgument(5, "pass", 0);
        badArgument(5, "pass", -1);
        badArgument(5, "pass", 101);
        refused(5, x -> x.passTo(600), Check.BAD_STATE, "pass", 72);
        refused(5, x -> x.passTo(671), Check.BAD_STATE, "pass", 1);
    }

    private static void freezes() {
        noIndex(7, "once", 4, 0, 672, 1);
        badArgument(7, "once", 0, -1, 672, 1);
        badArgument(7, "once", 0, 672, 673, 1);
        badArgument(7, "once", 0, 0, 0, 1);
        badArgument(7, "once", 0, 0, 673, 1);
        badArgument(7, "once", 0, 0, 672, 0);
        badArgument(7, "once", 0, 0, 672, 4);
        noIndex(8, "daily", 4, 0, 0, 0, 1);
        noIndex(8, "daily", 0, 4, 0, 0, 1);
        badArgument(8, "daily", 0, 0, -1, 0, 1);
        badArgument(8, "daily", 0, 0, 0, 24, 1);
        badArgument(8, "daily", 0, 0, 0, 0, 0);
        noIndex(9, "feasts", 4, 1, 1);
        noIndex(9, "feasts", 0, 4, 1);
        badArgument(9, "feasts", 0, 1, 0);
        noElement(10, "lift", LIFTED);
        noElement(10, "lift", NO_FREEZE);
        noElement(10, "lift", -1);
        noIndex(11, "holding", 4, 0);
        badArgument(11, "holding", 0, 672);
        noElement(12, "hours", LIFTED);
        noElement(12, "hours", NO_FREEZE);
        noIndex(13, "nextSpan", 4, 0, 1);
        badArgument(13, "nextSpan", 0, 672, 1);
        badArgument(13, "nextSpan", 0, 0, 101);
    }

    private static void changes() {
        noIndex(14, "plan", 4, 20, 1, 1);
        badArgument(14, "plan", 0, 9, 1, 1);
        badArgument(14, "plan", 0, 672, 1, 1);
        badArgument(14, "plan", 0, 20, 0, 1);
        badArgument(14, "plan", 0, 20, 101, 1);
        badArgument(14, "plan", 0, 20, 1, 0);
        badArgument(14, "plan", 0, 20, 1, 4);
        noIndex(15, "move", NO_CHANGE, 20);
        badArgument(15, "move", EARLY, 9);
        badArgument(15, "move", EARLY, 643);
        badArgument(15, "move", APPROVED, 672);
        refused(15, x -> x.passTo(12), Check.BAD_ARGUMENT, "move", EARLY, 11);
        badState(15, "move", BEGUN, 20);
        badState(15, "move", DONE, 20);
        noIndex(16, "approve", NO_CHANGE);
        badState(16, "approve", BEGUN);
        badState(16, "approve", DONE);
        badState(16, "approve", APPROVED);
        noIndex(17, "begin", NO_CHANGE);
        badState(17, "begin", BEGUN);
        badState(17, "begin", DONE);
        refused(17, x -> x.done("approve", EARLY), Check.BAD_STATE, "begin", EARLY);
        refused(17, x -> x.passTo(11), Check.BAD_STATE, "begin", APPROVED);
        refused(17, x -> x.passTo(11), Check.BAD_STATE, "begin", MISSED);
        refused(17, x -> x.done("plan", 0, 10, 1, 1), Check.BAD_STATE, "begin", NO_CHANGE);
        badState(17, "begin", FROZEN);
        noIndex(18, "state", NO_CHANGE);
        noIndex(19, "approved", NO_CHANGE);
    }

    private static void exceptions() {
        badArgument(20, "exceptions", 0, 7);
        badArgument(20, "exceptions", 4, 7);
        badArgument(20, "exceptions", 1, -1);
        badArgument(20, "exceptions", 1, 51);
        badArgument(21, "left", 0);
        badArgument(21, "left", 4);
        noIndex(22, "excuse", NO_CHANGE, STANDING);
        noElement(22, "excuse", APPROVED, LIFTED);
        noElement(22, "excuse", APPROVED, NO_FREEZE);
        badState(22, "excuse", APPROVED, BESIDE);
        badState(22, "excuse", BEGUN, LAID_BEHIND);
        badState(22, "excuse", DONE, LAID_BEHIND);
        badState(22, "excuse", EARLY, STANDING);
        Consumer<Asked> withoutExceptions = x -> {
            x.done("exceptions", 1, 0);
            x.done("exceptions", 2, 0);
            x.done("exceptions", 3, 0);
        };
        refused(22, withoutExceptions, Check.BAD_STATE, "excuse", APPROVED, STANDING);
        refused(22, x -> x.done("exceptions", 3, 0), Check.BAD_STATE, "excuse", EARLY, 2);
    }

    private static void judgements() {
        noIndex(23, "badHours", NO_CHANGE);
        noIndex(24, "badHoursOneByOne", NO_CHANGE);
        noIndex(25, "firstBad", NO_CHANGE);
        noIndex(26, "reasons", NO_CHANGE);
    }

    private static void theFull() {
        refusedByFull(2, Check.BAD_STATE, "scope", 0);
        refusedByFull(2, Check.NO_INDEX, "scope", 16);
        refusedByFull(5, Check.BAD_STATE, "pass", 1);
        refusedByFull(7, Check.BAD_STATE, "once", 0, 0, 672, 1);
        refusedByFull(8, Check.BAD_STATE, "daily", 0, 0, 0, 0, 1);
        refusedByFull(9, Check.BAD_STATE, "feasts", 0, 0, 1);
        refusedByFull(10, Check.NO_ELEMENT, "lift", 10);
        refusedByFull(10, Check.NO_ELEMENT, "lift", 20);
        refusedByFull(14, Check.BAD_STATE, "plan", 0, 671, 1, 1);
        refusedByFull(15, Check.NO_INDEX, "move", 30, 671);
        refusedByFull(15, Check.BAD_ARGUMENT, "move", 29, 672);
        refusedByFull(17, Check.BAD_STATE, "begin", 29);
        refusedByFull(22, Check.BAD_STATE, "excuse", 29, 0);
    }
}
