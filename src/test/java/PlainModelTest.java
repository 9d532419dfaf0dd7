import java.util.Arrays;
import java.util.Map;
import java.util.TreeMap;

/**
 * Runs of 512 calls on the class and on the plain model, drawn by a fixed rule, so that each run
 * is the same every time. Every answer and every exception must agree; the model changes nothing
 * when it throws, so a refused call that changes something is seen by the calls behind it.
 */
public final class PlainModelTest {
    private static final int RUNS = 1500;
    private static final int CALLS = 512;
    private static final String[] KINDS = {
        "scope", "offset", "feast", "pass", "now", "once", "daily", "feasts", "lift", "holding", "hours", "nextSpan",
        "plan", "move", "approve", "begin", "state", "approved", "exceptions", "left", "excuse",
        "badHours", "badHoursOneByOne", "firstBad", "reasons"
    };
    /** How often each is drawn: freezes and changes are few, so they are laid slowly. */
    private static final int[] WEIGHTS = {
        3, 4, 4, 4, 1, 3, 3, 3, 1, 5, 4, 4, 5, 4, 12, 12, 5, 3, 3, 2, 9, 6, 6, 6, 6
    };
    private static final int[] EXTREMES = {Integer.MIN_VALUE, Integer.MIN_VALUE + 1, -1000, 1000, 1 << 30,
        Integer.MAX_VALUE - 1, Integer.MAX_VALUE};

    private static final Check check = new Check("PlainModelTest");
    /** How often each kind of call had each kind of outcome. */
    private static final Map<String, Integer> seen = new TreeMap<>();
    private static long drawn;
    /** Some runs stay calm, so that changes get through; others shake every argument. */
    private static int wildness;
    /** And some hurry to the last hours. */
    private static int longestPass;

    public static void main(String[] args) {
        for (int run = 0; run < RUNS; run++) {
            drawn = 0x9E3779B97F4A7C15L * (run + 1);
            wildness = run % 3 == 0 ? 25 : 3;
            longestPass = run % 4 == 0 ? 100 : 4;
            compareRun(run);
        }
        checkThatAllOutcomesCameUp();
        check.close();
    }

    private static int draw(int below) {
        drawn = drawn * 6364136223846793005L + 1442695040888963407L;
        return (int) ((drawn >>> 33) % below);
    }

    /** From least to greatest, now and then one beside that, and seldom one far from it. */
    private static int number(int least, int greatest) {
        int chance = draw(100);
        if (chance < wildness / 3) {
            return EXTREMES[draw(EXTREMES.length)];
        }
        if (chance < wildness) {
            return draw(2) == 0 ? least - 1 : greatest + 1;
        }
        if (chance < 12 + wildness) {
            return draw(2) == 0 ? least : greatest;
        }
        return least + draw(greatest - least + 1);
    }

    private static int drawKind() {
        int sum = 0;
        for (int weight : WEIGHTS) {
            sum += weight;
        }
        int place = draw(sum);
        int kind = 0;
        while (place >= WEIGHTS[kind]) {
            place -= WEIGHTS[kind];
            kind++;
        }
        return kind;
    }

    private static void compareRun(int run) {
        FrostCalendar x = new FrostCalendar();
        PlainModel model = new PlainModel();
        int scopes = 1;
        int freezes = 0;
        int changes = 0;
        for (int call = 0; call < CALLS; call++) {
            String drawnKind = KINDS[drawKind()];
            // Where all is frozen hardly a change begins: every second run lays few freezes.
            String kind = run % 2 == 1 && laysFreeze(drawnKind) && draw(6) > 0 ? "begin" : drawnKind;
            int[] a = arguments(kind, model.now(), scopes, freezes, changes);
            boolean isOfChange = kind.equals("begin") || kind.equals("approve") || kind.equals("excuse");
            if (isOfChange && draw(4) > 0) {
                a[0] = model.changeOfNow(a[0]);
            }
            String due = Check.outcome(() -> askModel(model, kind, a));
            String got = Check.outcome(() -> Asked.ask(x, kind, a));
            check.compare("run " + run + ", call " + call + ", " + kind + Arrays.toString(a), due, got);
            boolean answered = Check.isAnswer(due);
            seen.merge(kind + " " + (answered ? "answers" : due), 1, Integer::sum);
            if (answered && kind.equals("scope")) {
                scopes++;
            }
            if (answered && laysFreeze(kind)) {
                freezes++;
            }
            if (answered && kind.equals("plan")) {
                changes++;
            }
            if (!due.equals(got)) {
                return;
            }
        }
    }

    private static boolean laysFreeze(String kind) {
        return kind.equals("once") || kind.equals("daily") || kind.equals("feasts");
    }

    private static int[] arguments(String kind, int now, int scopes, int freezes, int changes) {
        int scope = number(0, scopes - 1);
        int land = number(0, 3);
        int rank = draw(3) == 0 ? 1 : number(1, 3);
        int freeze = number(0, Math.max(0, freezes - 1));
        int change = number(0, Math.max(0, changes - 1));
        int length = draw(2) == 0 ? number(1, 100) : number(1, 6);
        switch (kind) {
            case "scope": return new int[] {scope};
            case "offset": return new int[] {land, number(-11, 12)};
            case "feast": return new int[] {land, draw(2) == 0 ? number(-1, 28) : number(now / 24, now / 24 + 2)};
            case "pass": return new int[] {number(1, longestPass)};
            case "once": return once(scope, rank, now);
            case "daily": return new int[] {scope, land, number(0, 23), number(0, 23), rank};
            case "feasts": return new int[] {scope, land, rank};
            case "lift": case "hours": return new int[] {freeze};
            case "holding": return new int[] {scope, number(0, 671)};
            case "nextSpan": return new int[] {scope, number(0, 671), length};
            case "plan": return new int[] {scope, hourToStart(now, length), length, rank};
            case "move": return new int[] {change, hourToStart(now, length)};
            case "exceptions": return new int[] {rank, draw(2) == 0 ? number(0, 50) : number(0, 2)};
            case "left": return new int[] {rank};
            case "excuse": return new int[] {change, freeze};
            case "now": return new int[0];
            default: return new int[] {change};
        }
    }

    private static int hourToStart(int now, int length) {
        switch (draw(4)) {
            case 0: return number(now, 671);
            case 1: return number(now, Math.max(now, 672 - Math.max(1, Math.min(100, length))));
            default: return number(now, Math.min(671, now + 1));
        }
    }

    private static int[] once(int scope, int rank, int now) {
        int from = draw(2) == 0 ? number(0, 671) : number(now, Math.min(671, now + 20));
        int least = from >= 0 && from < 672 ? from + 1 : 1;
        int to = draw(3) == 0 ? number(least, 672) : number(least, Math.min(672, least + 10));
        return new int[] {scope, from, to, rank};
    }

    private static int askModel(PlainModel x, String kind, int[] a) {
        switch (kind) {
            case "scope": return x.scope(a[0]);
            case "offset": return x.offset(a[0], a[1]);
            case "feast": return x.feast(a[0], a[1]);
            case "pass": return x.pass(a[0]);
            case "now": return x.now();
            case "once": return x.once(a[0], a[1], a[2], a[3]);
            case "daily": return x.daily(a[0], a[1], a[2], a[3], a[4]);
            case "feasts": return x.feasts(a[0], a[1], a[2]);
            case "lift": return x.lift(a[0]);
            case "holding": return x.holding(a[0], a[1]);
            case "hours": return x.hours(a[0]);
            case "nextSpan": return x.nextSpan(a[0], a[1], a[2]);
            case "plan": return x.plan(a[0], a[1], a[2], a[3]);
            case "move": return x.move(a[0], a[1]);
            case "approve": return x.approve(a[0]);
            case "begin": return x.begin(a[0]);
            case "state": return x.state(a[0]);
            case "approved": return x.approved(a[0]);
            case "exceptions": return x.exceptions(a[0], a[1]);
            case "left": return x.left(a[0]);
            case "excuse": return x.excuse(a[0], a[1]);
            case "badHours": case "badHoursOneByOne": return x.badHours(a[0]);
            case "firstBad": return x.firstBad(a[0]);
            default: return x.reasons(a[0]);
        }
    }

    /** Else the runs would prove nothing of a call that they never get through to. */
    private static void checkThatAllOutcomesCameUp() {
        for (String kind : KINDS) {
            int answers = seen.getOrDefault(kind + " answers", 0);
            check.is(kind + " answered often (" + answers + " times)", true, answers >= 1000);
        }
        check.is("outcomes of all kinds (" + seen + ")", 69, seen.size());
    }
}
