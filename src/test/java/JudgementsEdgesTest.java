/** Promises 23 to 26 at their edges: spans and freezes that meet, all bad, none bad, each state. */
public final class JudgementsEdgesTest {
    private static final Check check = new Check("JudgementsEdgesTest");
    private static final int NONE = -1;
    private static final int ALL = (1 << 20) - 1;

    public static void main(String[] args) {
        noBadHours();
        spanAndFreezeMeet();
        allIsBad();
        anHourCountsOnce();
        theFirstOfAll();
        reasonsHoldInTheSpan();
        overMidnight();
        firstAndLastHours();
        outerDays();
        laidBehindTheBeginning();
        laidAheadOfTheBeginning();
        aheadOfTheBeginningBesideLiftedOnes();
        beginningsOneBehindTheOther();
        excused();
        inEachState();
        check.close();
    }

    private static Asked fresh() {
        return new Asked(check);
    }

    /** What the promises 23 to 26 answer of one change, each under its own number. */
    private static void judged(String words, Asked x, int change, int hours, int first, int reasons) {
        check.promise(23, words);
        x.due(hours, "badHours", change);
        check.promise(24, words);
        x.due(hours, "badHoursOneByOne", change);
        check.promise(25, words);
        x.due(first, "firstBad", change);
        check.promise(26, words);
        x.due(reasons, "reasons", change);
    }

    private static void noBadHours() {
        String words = "NONE if it has none";
        Asked x = fresh();
        x.done("plan", 0, 0, 1, 1);
        x.done("plan", 0, 572, 100, 1);
        judged(words, x, 0, 0, NONE, 0);
        judged(words, x, 1, 0, NONE, 0);
        x.done("feasts", 0, 0, 1);
        x.done("once", 0, 1, 572, 1);
        judged(words, x, 0, 0, NONE, 0);
        judged(words, x, 1, 0, NONE, 0);
    }

    /** A freeze of the hours 20 to 29 against spans that end ahead of it, in it, behind it. */
    private static void spanAndFreezeMeet() {
        String words = "The bad hours of a change are those of its span in which a freeze holds";
        int[][] rows = {
            // from, length, bad hours, first bad
            {10, 10, 0, NONE}, {10, 11, 1, 20}, {10, 20, 10, 20}, {10, 21, 10, 20}, {19, 1, 0, NONE}, {19, 2, 1, 20},
            {20, 1, 1, 20}, {20, 10, 10, 20}, {20, 11, 10, 20}, {25, 3, 3, 25}, {29, 1, 1, 29}, {29, 50, 1, 29},
            {30, 1, 0, NONE}, {30, 100, 0, NONE}, {0, 100, 10, 20}};
        Asked x = fresh();
        x.done("once", 0, 20, 30, 1);
        for (int change = 0; change < rows.length; change++) {
            int[] row = rows[change];
            x.done("plan", 0, row[0], row[1], 1);
            judged(words, x, change, row[2], row[3], row[2] > 0 ? 1 : 0);
        }
    }

    private static void allIsBad() {
        String words = "The bad hours of a change are those of its span in which a freeze holds";
        for (int length : new int[] {1, 99, 100}) {
            for (int from : new int[] {0, 672 - length}) {
                Asked x = fresh();
                x.done("plan", 0, from, length, 1);
                for (int freeze = 0; freeze < 20; freeze++) {
                    x.done("once", 0, 0, 672, 1);
                    judged(words, x, 0, length, from, (2 << freeze) - 1);
                }
                for (int freeze = 0; freeze < 19; freeze++) {
                    x.done("lift", freeze);
                }
                judged(words, x, 0, length, from, 1 << 19);
                x.done("lift", 19);
                judged(words, x, 0, 0, NONE, 0);
            }
        }
    }

    private static void anHourCountsOnce() {
        String words = "Returns how many bad hours a change has";
        Asked x = fresh();
        x.done("plan", 0, 0, 100, 1);
        for (int freeze = 0; freeze < 20; freeze++) {
            x.done("once", 0, 10 + freeze, 20 + freeze, 1);
            judged(words, x, 0, 10 + freeze, 10, (2 << freeze) - 1);
        }
        judged(words, x, 0, 29, 10, ALL);
        Asked y = fresh();
        y.done("plan", 0, 0, 100, 1);
        for (int freeze = 0; freeze < 20; freeze++) {
            y.done("once", 0, 5 * freeze + 4, 5 * freeze + 5, 1);
            judged(words, y, 0, freeze + 1, 4, (2 << freeze) - 1);
        }
    }

    private static void theFirstOfAll() {
        String words = "Returns the first bad hour of a change";
        Asked x = fresh();
        x.done("plan", 0, 10, 50, 1);
        x.done("once", 0, 59, 60, 1);
        judged(words, x, 0, 1, 59, 1);
        x.done("once", 0, 40, 41, 1);
        judged(words, x, 0, 2, 40, 3);
        x.done("once", 0, 0, 11, 1);
        judged(words, x, 0, 3, 10, 7);
        x.done("once", 0, 5, 6, 1);
        judged(words, x, 0, 3, 10, 7);
        x.done("lift", 2);
        judged(words, x, 0, 2, 40, 3);
    }

    private static void reasonsHoldInTheSpan() {
        String words = "those that touch it, from which it is not excused, and which hold in some hour of its span";
        Asked x = fresh();
        x.scopesInARow();
        x.done("scope", 0); // 3
        x.done("exceptions", 1, 1);
        x.done("once", 2, 10, 11, 1); // touches and holds
        x.done("once", 3, 10, 11, 1); // does not touch
        x.done("once", 0, 9, 10, 1); // ends ahead of the span
        x.done("once", 0, 20, 21, 1); // begins behind it
        x.done("once", 0, 19, 20, 1); // in its last hour
        x.done("once", 1, 15, 16, 1); // to be excused from
        x.done("plan", 1, 10, 10, 1);
        judged(words, x, 0, 3, 10, 0b110001);
        x.done("excuse", 0, 5);
        judged(words, x, 0, 2, 10, 0b010001);
    }

    private static void overMidnight() {
        String words = "in each hour whose hour of the day is at least the first one or less than the second one";
        Asked x = fresh();
        x.done("daily", 0, 0, 22, 2, 1);
        x.done("plan", 0, 2, 20, 1);
        x.done("plan", 0, 1, 22, 1);
        x.done("plan", 0, 23, 2, 1);
        x.done("plan", 0, 0, 100, 1);
        judged(words, x, 0, 0, NONE, 0);
        judged(words, x, 1, 2, 1, 1);
        judged(words, x, 2, 2, 23, 1);
        judged(words, x, 3, 18, 0, 1);
        x.done("offset", 0, -1);
        judged(words, x, 0, 1, 2, 1);
        x.done("offset", 0, 1);
        judged(words, x, 0, 1, 21, 1);
    }

    private static void firstAndLastHours() {
        String words = "the span ends with the hour 671 at the latest";
        Asked x = fresh();
        x.done("daily", 0, 0, 23, 0, 1);
        x.done("daily", 0, 0, 0, 1, 1);
        x.done("plan", 0, 671, 1, 1);
        x.done("plan", 0, 572, 100, 1);
        x.done("plan", 0, 0, 1, 1);
        x.done("plan", 0, 1, 22, 1);
        judged(words, x, 0, 1, 671, 1);
        judged(words, x, 1, 9, 575, 3);
        judged(words, x, 2, 1, 0, 2);
        judged(words, x, 3, 0, NONE, 0);
        x.done("once", 0, 671, 672, 1);
        judged(words, x, 0, 1, 671, 5);
        x.done("lift", 0);
        x.done("lift", 1);
        judged(words, x, 1, 1, 671, 4);
    }

    private static void outerDays() {
        String words = "its day this sum divided by 24, rounded down, so from -1 to 28";
        Asked x = fresh();
        x.done("feasts", 0, 0, 1);
        x.done("feast", 0, -1);
        x.done("feast", 0, 28);
        x.done("plan", 0, 0, 100, 1);
        x.done("plan", 0, 572, 100, 1);
        judged(words, x, 0, 0, NONE, 0);
        judged(words, x, 1, 0, NONE, 0);
        x.done("offset", 0, -11);
        judged(words, x, 0, 11, 0, 1);
        judged(words, x, 1, 0, NONE, 0);
        x.done("offset", 0, 12);
        judged(words, x, 0, 0, NONE, 0);
        judged(words, x, 1, 12, 660, 1);
    }

    private static void laidBehindTheBeginning() {
        String words = "laid behind the beginning of a change, be it in the same hour, does not touch that";
        Asked x = fresh();
        x.begun(0, 10);
        x.done("once", 0, 0, 672, 1);
        x.done("daily", 0, 0, 0, 0, 1);
        x.done("feasts", 0, 0, 1);
        x.done("feast", 0, 0);
        judged(words, x, 0, 0, NONE, 0);
        x.passTo(5);
        x.done("once", 0, 0, 672, 1);
        judged(words, x, 0, 0, NONE, 0);
        x.passTo(10);
        x.done("once", 0, 0, 672, 1);
        judged(words, x, 0, 0, NONE, 0);
        check.promise(11, "Returns the freezes that touch a scope and hold in an hour");
        x.due(0b11111, "holding", 0, 0);
        check.promise(13, "in no hour of which a freeze that touches a scope holds");
        x.due(NONE, "nextSpan", 0, 0, 1);
        x.done("plan", 0, 10, 10, 1);
        judged("A freeze touches a change if it touches its scope", x, 1, 10, 10, 0b11111);
    }

    private static void laidAheadOfTheBeginning() {
        String words = "but one that was laid behind the beginning of a change";
        Asked x = fresh();
        x.done("daily", 0, 0, 20, 21, 1); // ahead of the planning
        x.done("plan", 0, 0, 10, 1);
        x.done("daily", 0, 0, 21, 22, 1); // ahead of the approval
        x.done("approve", 0);
        x.done("daily", 0, 0, 22, 23, 1); // in the hour of the beginning, ahead of it
        x.done("begin", 0);
        x.done("daily", 0, 0, 23, 0, 1); // in the same hour, behind it
        x.done("offset", 0, 12);
        judged(words, x, 0, 2, 8, 3);
        x.done("offset", 0, -11);
        judged(words, x, 0, 3, 7, 7);
        x.passTo(10);
        judged(words, x, 0, 3, 7, 7);
        x.done("lift", 1);
        judged(words, x, 0, 2, 7, 5);
    }

    private static void aheadOfTheBeginningBesideLiftedOnes() {
        String words = "but one that was laid behind the beginning of a change";
        Asked x = fresh();
        for (int freeze = 0; freeze < 4; freeze++) {
            x.done("daily", 0, 0, 23, 0, 1);
        }
        x.done("lift", 0);
        x.done("lift", 1);
        x.begun(0, 10);
        x.done("daily", 0, 0, 23, 0, 1);
        x.done("offset", 0, -1);
        judged(words, x, 0, 1, 0, 0b01100);
        x.done("lift", 3);
        judged(words, x, 0, 1, 0, 0b00100);
        x.done("lift", 2);
        judged(words, x, 0, 0, NONE, 0);
    }

    private static void beginningsOneBehindTheOther() {
        String words = "does not touch that";
        Asked x = fresh();
        for (int change = 0; change < 4; change++) {
            x.done("plan", 0, 0, 10, 1);
            x.done("approve", change);
        }
        for (int change = 0; change < 4; change++) {
            x.done("daily", 0, 0, 23, 0, 1);
            x.done("begin", change);
        }
        x.done("daily", 0, 0, 23, 0, 1);
        x.done("offset", 0, -1);
        for (int change = 0; change < 4; change++) {
            judged(words, x, change, 1, 0, (2 << change) - 1);
        }
        Asked full = fresh();
        for (int freeze = 0; freeze < 20; freeze++) {
            full.done("daily", 0, 0, 23, 0, 1);
        }
        full.begun(0, 1);
        full.done("offset", 0, -1);
        judged("but one that was laid behind the beginning of a change", full, 0, 1, 0, ALL);
    }

    private static void excused() {
        String words = "from which it is not excused";
        Asked x = fresh();
        x.done("exceptions", 1, 50);
        for (int freeze = 0; freeze < 20; freeze++) {
            x.done("once", 0, freeze, 20, 1);
        }
        x.done("plan", 0, 0, 20, 1);
        x.done("plan", 0, 0, 20, 1);
        for (int freeze = 0; freeze < 20; freeze++) {
            judged(words, x, 0, 20 - freeze, freeze, ALL - (1 << freeze) + 1);
            x.done("excuse", 0, freeze);
        }
        judged(words, x, 0, 0, NONE, 0);
        judged(words, x, 1, 20, 0, ALL);
        x.done("move", 0, 0);
        judged("loses all approvals and excuses", x, 0, 20, 0, ALL);
    }

    private static void inEachState() {
        String words = "A change is let through if it has no bad hours";
        Asked x = fresh();
        x.done("daily", 0, 0, 12, 13, 1);
        x.done("plan", 0, 0, 5, 1);
        x.done("approve", 0);
        for (int state = FrostCalendar.PLANNED; state <= FrostCalendar.DONE; state++) {
            x.due(state, "state", 0);
            judged(words, x, 0, 0, NONE, 0);
            x.done("offset", 0, 12);
            judged(words, x, 0, 1, 0, 1);
            x.done("offset", 0, 8);
            judged(words, x, 0, 1, 4, 1);
            x.done("offset", 0, 7);
            judged(words, x, 0, 0, NONE, 0);
            if (state == FrostCalendar.PLANNED) {
                x.done("begin", 0);
            } else {
                x.passTo(5);
            }
        }
    }
}
