import java.util.function.Supplier;

/**
 * Each argument of each call, promise by promise: the first and the last value that is allowed, and
 * those beside them that are not. Every value meets an object of its own, all else being in order.
 */
public final class RangesTest {
    private static final Check check = new Check("RangesTest");

    public static void main(String[] args) {
        scopesLandsTime();
        once();
        daily();
        feasts();
        askingOfFreezes();
        askingOfHours();
        plan();
        move();
        changes();
        exceptions();
        judgements();
        check.close();
    }

    // ---- the ways to ask

    private static Asked fresh() {
        return new Asked(check);
    }

    private static Supplier<Asked> withScopes(int count) {
        return () -> {
            Asked x = fresh();
            for (int scope = 1; scope < count; scope++) {
                x.done("scope", 0);
            }
            return x;
        };
    }

    private static Supplier<Asked> withFreezes(int count) {
        return () -> {
            Asked x = fresh();
            for (int freeze = 0; freeze < count; freeze++) {
                x.done("once", 0, 300, 301, 1);
            }
            return x;
        };
    }

    private static Supplier<Asked> withChanges(int count) {
        return () -> {
            Asked x = fresh();
            for (int change = 0; change < count; change++) {
                x.done("plan", 0, 0, 1, 1);
            }
            return x;
        };
    }

    private static Supplier<Asked> at(int now) {
        return () -> {
            Asked x = fresh();
            x.passTo(now);
            return x;
        };
    }

    /** The argument at a place is to be least at least and greatest at most. */
    private static void range(
            Supplier<Asked> made, Class<?> due, int least, int greatest, String call, int place, int... a) {
        for (int value : new int[] {least, greatest}) {
            made.get().answers(call, with(a, place, value));
        }
        refused(made, due, new int[] {least - 1, greatest + 1}, call, place, a);
        refused(made, due, new int[] {Integer.MIN_VALUE, Integer.MAX_VALUE}, call, place, a);
    }

    private static void refused(Supplier<Asked> made, Class<?> due, int[] values, String call, int place, int... a) {
        for (int value : values) {
            made.get().refused(due, call, with(a, place, value));
        }
    }

    private static int[] with(int[] a, int place, int value) {
        int[] changed = a.clone();
        changed[place] = value;
        return changed;
    }

    /** Of few and of many scopes, the last is there and the one behind it is not. */
    private static void scopes(String call, int place, int... a) {
        for (int count : new int[] {1, 2, 15, 16}) {
            range(withScopes(count), Check.NO_INDEX, 0, count - 1, call, place, a);
        }
    }

    private static void lands(String call, int place, int... a) {
        range(RangesTest::fresh, Check.NO_INDEX, 0, 3, call, place, a);
    }

    private static void arguments(int least, int greatest, String call, int place, int... a) {
        range(RangesTest::fresh, Check.BAD_ARGUMENT, least, greatest, call, place, a);
    }

    private static void changesOf(String call, int... a) {
        refused(withChanges(0), Check.NO_INDEX, new int[] {-1, 0, 1, 29, 30}, call, 0, a);
        for (int count : new int[] {1, 2, 29, 30}) {
            range(withChanges(count), Check.NO_INDEX, 0, count - 1, call, 0, a);
        }
    }

    private static void freezesOf(String call, int place, Supplier<Asked> none, int... a) {
        refused(none, Check.NO_ELEMENT, new int[] {-1, 0, 1, 19, 20}, call, place, a);
    }

    // ---- the promises

    private static void scopesLandsTime() {
        check.promise(2, "IndexOutOfBoundsException if there is no such scope");
        for (int count : new int[] {1, 2, 15}) {
            range(withScopes(count), Check.NO_INDEX, 0, count - 1, "scope", 0, 0);
        }
        check.promise(3, "land: 0 to 3");
        lands("offset", 0, 0, 5);
        check.promise(3, "offset: -11 to 12");
        for (int land = 0; land <= 3; land++) {
            arguments(-11, 12, "offset", 1, land, 0);
        }
        check.promise(4, "land: 0 to 3");
        lands("feast", 0, 0, 5);
        check.promise(4, "day: -1 to 28");
        for (int land = 0; land <= 3; land++) {
            arguments(-1, 28, "feast", 1, land, 0);
        }
        check.promise(5, "hours: 1 to 100");
        arguments(1, 100, "pass", 0, 1);
        range(at(571), Check.BAD_ARGUMENT, 1, 100, "pass", 0, 1);
    }

    private static void once() {
        check.promise(7, "IndexOutOfBoundsException if there is no such scope");
        scopes("once", 0, 0, 0, 1, 1);
        check.promise(7, "from: 0 to 671");
        arguments(0, 671, "once", 1, 0, 0, 672, 1);
        check.promise(7, "to: greater than from, at most 672");
        for (int from : new int[] {0, 1, 335, 670, 671}) {
            arguments(from + 1, 672, "once", 2, 0, from, 0, 1);
        }
        check.promise(7, "rank: 1 to 3");
        arguments(1, 3, "once", 3, 0, 0, 1, 1);
    }

    private static void daily() {
        check.promise(8, "IndexOutOfBoundsException if there is no such scope or land");
        scopes("daily", 0, 0, 0, 8, 9, 1);
        lands("daily", 1, 0, 0, 8, 9, 1);
        check.promise(8, "first: 0 to 23");
        for (int second : new int[] {0, 12, 23}) {
            arguments(0, 23, "daily", 2, 0, 0, 0, second, 1);
        }
        check.promise(8, "second: 0 to 23");
        for (int first : new int[] {0, 12, 23}) {
            arguments(0, 23, "daily", 3, 0, 0, first, 0, 1);
        }
        check.promise(8, "rank: 1 to 3");
        arguments(1, 3, "daily", 4, 0, 0, 8, 9, 1);
    }

    private static void feasts() {
        check.promise(9, "IndexOutOfBoundsException if there is no such scope or land");
        scopes("feasts", 0, 0, 0, 1);
        lands("feasts", 1, 0, 0, 1);
        check.promise(9, "rank: 1 to 3");
        arguments(1, 3, "feasts", 2, 0, 0, 1);
    }

    private static void askingOfFreezes() {
        check.promise(10, "NoSuchElementException if there is no such freeze any more");
        freezesOf("lift", 0, RangesTest::fresh, 0);
        for (int count : new int[] {1, 2, 19, 20}) {
            range(withFreezes(count), Check.NO_ELEMENT, 0, count - 1, "lift", 0, 0);
        }
        check.promise(12, "NoSuchElementException if there is no such freeze any more");
        freezesOf("hours", 0, RangesTest::fresh, 0);
        for (int count : new int[] {1, 2, 19, 20}) {
            range(withFreezes(count), Check.NO_ELEMENT, 0, count - 1, "hours", 0, 0);
        }
    }

    private static void askingOfHours() {
        check.promise(11, "IndexOutOfBoundsException if there is no such scope");
        scopes("holding", 0, 0, 5);
        check.promise(11, "hour: 0 to 671");
        arguments(0, 671, "holding", 1, 0, 0);
        check.promise(13, "IndexOutOfBoundsException if there is no such scope");
        scopes("nextSpan", 0, 0, 5, 5);
        check.promise(13, "from: 0 to 671");
        arguments(0, 671, "nextSpan", 1, 0, 0, 1);
        arguments(0, 671, "nextSpan", 1, 0, 0, 100);
        check.promise(13, "length: 1 to 100");
        arguments(1, 100, "nextSpan", 2, 0, 0, 1);
        arguments(1, 100, "nextSpan", 2, 0, 671, 1);
    }

    private static void plan() {
        check.promise(14, "IndexOutOfBoundsException if there is no such scope");
        scopes("plan", 0, 0, 5, 5, 1);
        check.promise(14, "from: the first hour of its span, not ahead of now");
        for (int length : new int[] {1, 2, 72, 100}) {
            for (int now : new int[] {0, 1, 571, 572, 600, 670, 671}) {
                if (now <= 672 - length) {
                    range(at(now), Check.BAD_ARGUMENT, now, 672 - length, "plan", 1, 0, 0, length, 1);
                }
            }
        }
        check.promise(14, "length: 1 to 100");
        arguments(1, 100, "plan", 2, 0, 0, 0, 1);
        arguments(1, 100, "plan", 2, 0, 571, 0, 1);
        check.promise(14, "the span ends with the hour 671 at the latest");
        for (int from : new int[] {572, 573, 640, 670, 671}) {
            arguments(1, 672 - from, "plan", 2, 0, from, 0, 1);
        }
        check.promise(14, "risk: 1 to 3");
        arguments(1, 3, "plan", 3, 0, 0, 1, 1);
    }

    private static void move() {
        check.promise(15, "IndexOutOfBoundsException if there is no such change");
        changesOf("move", 0, 5);
        check.promise(15, "not ahead of now, and so that it ends with the hour 671 at the latest");
        for (int length : new int[] {1, 2, 72, 100}) {
            for (int now : new int[] {0, 1, 571, 572, 600, 670, 671}) {
                Supplier<Asked> planned = () -> {
                    Asked x = fresh();
                    x.done("plan", 0, 0, length, 1);
                    x.passTo(now);
                    return x;
                };
                if (now <= 672 - length) {
                    range(planned, Check.BAD_ARGUMENT, now, 672 - length, "move", 1, 0, 0);
                } else {
                    // Too late for so long a change: no hour is left for it.
                    int[] none = {0, 672 - length, 673 - length, now - 1, now, now + 1, 671, 672};
                    refused(planned, Check.BAD_ARGUMENT, none, "move", 1, 0, 0);
                }
            }
        }
    }

    private static void changes() {
        check.promise(16, "IndexOutOfBoundsException if there is no such change");
        changesOf("approve", 0);
        check.promise(17, "IndexOutOfBoundsException if there is no such change");
        refused(withChanges(0), Check.NO_INDEX, new int[] {-1, 0, 1, 29, 30}, "begin", 0, 0);
        for (int count : new int[] {1, 2, 29, 30}) {
            Supplier<Asked> approved = () -> {
                Asked x = withChanges(count).get();
                for (int change = 0; change < count; change++) {
                    x.done("approve", change);
                }
                return x;
            };
            range(approved, Check.NO_INDEX, 0, count - 1, "begin", 0, 0);
        }
        check.promise(18, "IndexOutOfBoundsException if there is no such change");
        changesOf("state", 0);
        check.promise(19, "IndexOutOfBoundsException if there is no such change");
        changesOf("approved", 0);
    }

    private static void exceptions() {
        check.promise(20, "rank: 1 to 3");
        arguments(1, 3, "exceptions", 0, 0, 7);
        check.promise(20, "number: 0 to 50");
        for (int rank = 1; rank <= 3; rank++) {
            arguments(0, 50, "exceptions", 1, rank, 0);
        }
        check.promise(21, "rank: 1 to 3");
        arguments(1, 3, "left", 0, 0);
        check.promise(22, "IndexOutOfBoundsException if there is no such change");
        refused(excusing(1, 0), Check.NO_INDEX, new int[] {-1, 0, 1, 29, 30}, "excuse", 0, 0, 0);
        for (int count : new int[] {1, 2, 29, 30}) {
            range(excusing(1, count), Check.NO_INDEX, 0, count - 1, "excuse", 0, 0, 0);
        }
        check.promise(22, "NoSuchElementException if there is no such freeze any more");
        freezesOf("excuse", 1, excusing(0, 1), 0, 0);
        for (int count : new int[] {1, 2, 19, 20}) {
            range(excusing(count, 1), Check.NO_ELEMENT, 0, count - 1, "excuse", 1, 0, 0);
        }
    }

    private static Supplier<Asked> excusing(int freezes, int changes) {
        return () -> {
            Asked x = withFreezes(freezes).get();
            for (int change = 0; change < changes; change++) {
                x.done("plan", 0, 0, 1, 1);
            }
            x.done("exceptions", 1, 50);
            return x;
        };
    }

    private static void judgements() {
        check.promise(23, "IndexOutOfBoundsException if there is no such change");
        changesOf("badHours", 0);
        check.promise(24, "IndexOutOfBoundsException if there is no such change");
        changesOf("badHoursOneByOne", 0);
        check.promise(25, "IndexOutOfBoundsException if there is no such change");
        changesOf("firstBad", 0);
        check.promise(26, "IndexOutOfBoundsException if there is no such change");
        changesOf("reasons", 0);
    }
}
