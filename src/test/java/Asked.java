/** A new calendar that is asked by the names of its calls, so that a fault tells the very call. */
final class Asked {
    /** Behind so many calls the document promises nothing, so a test must not go there. */
    private static final int MOST_CALLS = 512;

    private final Check check;
    private final FrostCalendar calendar = new FrostCalendar();
    private int calls;

    Asked(Check check) {
        this.check = check;
    }

    void due(int due, String call, int... a) {
        check.compare(text(call, a), String.valueOf(due), outcome(call, a));
    }

    void refused(Class<?> due, String call, int... a) {
        check.compare(text(call, a), due.getName(), outcome(call, a));
    }

    void answers(String call, int... a) {
        String got = outcome(call, a);
        check.compare(text(call, a), "something", Check.isAnswer(got) ? "something" : got);
    }

    /** For what only leads up to a comparison. */
    void done(String call, int... a) {
        String got = outcome(call, a);
        if (!Check.isAnswer(got)) {
            check.compare(text(call, a), "something", got);
        }
    }

    /** The answer itself, where a test goes on with it. */
    int number(String call, int... a) {
        String got = outcome(call, a);
        if (Check.isAnswer(got)) {
            return Integer.parseInt(got);
        }
        check.compare(text(call, a), "a number", got);
        return Integer.MIN_VALUE;
    }

    String outcome(String call, int... a) {
        calls++;
        if (calls > MOST_CALLS) {
            throw new IllegalStateException("this test asks one object more than 512 times");
        }
        return Check.outcome(() -> ask(calendar, call, a));
    }

    void passTo(int hour) {
        for (int left = hour - number("now"); left > 0; left -= 100) {
            done("pass", Math.min(100, left));
        }
    }

    /** The scope 1 below the scope 0, and the scope 2 below the scope 1. */
    void scopesInARow() {
        done("scope", 0);
        done("scope", 1);
    }

    /** Plans a change that begins now, approves it and begins it. */
    int begun(int scope, int length) {
        int change = number("plan", scope, number("now"), length, 1);
        done("approve", change);
        done("begin", change);
        return change;
    }

    static String text(String call, int... a) {
        StringBuilder text = new StringBuilder(call).append('(');
        for (int place = 0; place < a.length; place++) {
            text.append(place == 0 ? "" : ", ").append(a[place]);
        }
        return text.append(')').toString();
    }

    static int ask(FrostCalendar x, String call, int... a) {
        switch (call) {
            case "scope": return x.scope(a[0]);
            case "offset": return x.offset(a[0], a[1]);
            case "feast": return x.feast(a[0], a[1]) ? 1 : 0;
            case "pass": return x.pass(a[0]);
            case "now": return x.now();
            case "once": return x.once(a[0], a[1], a[2], a[3]);
            case "daily": return x.daily(a[0], a[1], a[2], a[3], a[4]);
            case "feasts": return x.feasts(a[0], a[1], a[2]);
            case "lift": return x.lift(a[0]);
            case "holding": return x.holding(a[0], a[1]);
            case "hours": return x.hours(a[0]);
            case "nextSpan": return x.nextSpan(a[0], a[1], a[2]);
            case "plan": return x.plan(a[0], a[1], a[2], a[3]);
            case "move": return x.move(a[0], a[1]);
            case "approve": return x.approve(a[0]);
            case "begin": return x.begin(a[0]);
            case "state": return x.state(a[0]);
            case "approved": return x.approved(a[0]);
            case "exceptions": return x.exceptions(a[0], a[1]);
            case "left": return x.left(a[0]);
            case "excuse": return x.excuse(a[0], a[1]);
            case "badHours": return x.badHours(a[0]);
            case "badHoursOneByOne": return x.badHoursOneByOne(a[0]);
            case "firstBad": return x.firstBad(a[0]);
            case "reasons": return x.reasons(a[0]);
            default: throw new AssertionError(call);
        }
    }
}
