/** "Offsets and feast days count as they are when something is asked", for each call that asks. */
public final class DaysOfTheAskingTest {
    private static final Check check = new Check("DaysOfTheAskingTest");
    private static final String WORDS = "offsets and feast days count as they are when something is asked";
    private static final int NONE = -1;

    public static void main(String[] args) {
        promise11Holding();
        promise12Hours();
        promise13NextSpan();
        promise15Move();
        promise17Begin();
        promises23To26Judgements();
        promises23To26JudgementsOfWhatHasBegun();
        check.close();
    }

    /** The freeze 0 holds daily from 8 to 10 o'clock, the freeze 1 on feasts, both in the land 1. */
    private static Asked withFreezes() {
        Asked x = new Asked(check);
        x.done("offset", 1, 3);
        x.done("daily", 0, 1, 8, 10, 1);
        x.done("feasts", 0, 1, 1);
        x.done("offset", 1, 0);
        return x;
    }

    private static void promise11Holding() {
        check.promise(11, WORDS);
        Asked x = withFreezes();
        x.due(0, "holding", 0, 5);
        x.due(1, "holding", 0, 8);
        x.done("offset", 1, 2);
        x.due(0, "holding", 0, 8);
        x.due(1, "holding", 0, 6);
        x.due(0, "holding", 0, 22);
        x.done("feast", 1, 1);
        x.due(2, "holding", 0, 22);
        x.due(3, "holding", 0, 30);
        x.done("offset", 1, 1);
        x.due(0, "holding", 0, 22);
        x.due(2, "holding", 0, 23);
        x.done("feast", 1, 1);
        x.due(0, "holding", 0, 23);
        x.done("offset", 2, 5);
        x.done("feast", 2, 0);
        x.due(0, "holding", 0, 3);
    }

    private static void promise12Hours() {
        check.promise(12, WORDS);
        Asked x = withFreezes();
        x.due(56, "hours", 0);
        x.due(0, "hours", 1);
        x.done("feast", 1, 0);
        x.due(24, "hours", 1);
        x.done("offset", 1, 12);
        x.due(56, "hours", 0);
        x.due(12, "hours", 1);
        x.done("offset", 1, -11);
        x.due(24, "hours", 1);
        x.done("feast", 1, -1);
        x.due(35, "hours", 1);
        x.done("feast", 1, 0);
        x.due(11, "hours", 1);
        x.done("feast", 1, -1);
        x.due(0, "hours", 1);
    }

    private static void promise13NextSpan() {
        check.promise(13, WORDS);
        Asked x = withFreezes();
        x.due(10, "nextSpan", 0, 0, 9);
        x.done("offset", 1, -1);
        x.due(0, "nextSpan", 0, 0, 9);
        x.done("feast", 1, -1);
        x.due(11, "nextSpan", 0, 0, 9);
        x.due(1, "nextSpan", 0, 0, 8);
        x.done("feast", 1, 0);
        x.due(25, "nextSpan", 0, 0, 8);
        x.done("feast", 1, 0);
        x.due(1, "nextSpan", 0, 0, 8);
    }

    private static void promise15Move() {
        check.promise(15, WORDS);
        Asked x = withFreezes();
        x.done("plan", 0, 0, 10, 1);
        x.due(2, "move", 0, 0);
        x.done("offset", 1, -1);
        x.due(1, "move", 0, 0);
        x.done("offset", 1, -11);
        x.due(0, "move", 0, 0);
        x.done("feast", 1, -1);
        x.due(10, "move", 0, 0);
        x.due(9, "move", 0, 2);
        x.done("feast", 1, -1);
        x.due(0, "move", 0, 2);
    }

    private static void promise17Begin() {
        check.promise(17, WORDS);
        Asked x = withFreezes();
        x.done("plan", 0, 0, 8, 1);
        x.done("approve", 0);
        x.done("feast", 1, 0);
        x.refused(Check.BAD_STATE, "begin", 0);
        x.done("feast", 1, 0);
        x.done("offset", 1, 1);
        x.refused(Check.BAD_STATE, "begin", 0);
        x.done("offset", 1, 0);
        x.due(8, "begin", 0);
    }

    /** Promises 23 to 26 in one row; each compares under its own words. */
    private static void judged(Asked x, int hours, int first, int reasons) {
        check.promise(23, WORDS);
        x.due(hours, "badHours", 0);
        check.promise(24, WORDS);
        x.due(hours, "badHoursOneByOne", 0);
        check.promise(25, WORDS);
        x.due(first, "firstBad", 0);
        check.promise(26, WORDS);
        x.due(reasons, "reasons", 0);
    }

    private static void promises23To26Judgements() {
        Asked x = withFreezes();
        x.done("plan", 0, 20, 12, 1);
        judged(x, 0, NONE, 0);
        x.done("offset", 1, 2);
        judged(x, 2, 30, 1);
        x.done("feast", 1, 1);
        judged(x, 10, 22, 3);
        x.done("offset", 1, -3);
        judged(x, 5, 27, 2);
        x.done("feast", 1, 0);
        judged(x, 12, 20, 2);
        x.done("feast", 1, 1);
        judged(x, 7, 20, 2);
        x.done("feast", 1, 0);
        judged(x, 0, NONE, 0);
    }

    private static void promises23To26JudgementsOfWhatHasBegun() {
        Asked x = withFreezes();
        x.begun(0, 8);
        judged(x, 0, NONE, 0);
        x.done("offset", 1, 5);
        judged(x, 2, 3, 1);
        x.done("feast", 1, 0);
        judged(x, 8, 0, 3);
        x.passTo(8);
        x.due(FrostCalendar.DONE, "state", 0);
        x.done("feast", 1, 0);
        judged(x, 2, 3, 1);
        x.done("offset", 1, 0);
        judged(x, 0, NONE, 0);
    }
}
