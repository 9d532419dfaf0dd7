/** Promises 23 to 26: badHours, badHoursOneByOne, firstBad, reasons. */
public final class JudgementsTest {
    private static final Check check = new Check("JudgementsTest");

    public static void main(String[] args) {
        judgeWithoutFreezes();
        refuseWhatIsNotThere();
        countAnHourOfTwoFreezesOnce();
        judgeTheSpanAlone();
        judgeTheLongestSpan();
        judgeTouchingFreezesAlone();
        judgeDailyFreezesAndFeasts();
        leaveOutExcuses();
        leaveOutLiftedFreezes();
        leaveOutFreezesLaidBehindTheBeginning();
        judgeByTheDaysOfTheAsking();
        check.close();
    }

    /** Promises 23 to 26 in one row: hours, first hour, reasons. */
    private static void judge(FrostCalendar x, int change, int hours, int first, int reasons) {
        check.is("promise 23, badHours(" + change + ")", hours, x.badHours(change));
        check.is("promise 24, badHoursOneByOne(" + change + ")", hours, x.badHoursOneByOne(change));
        check.is("promise 25, firstBad(" + change + ")", first, x.firstBad(change));
        check.is("promise 26, reasons(" + change + ")", reasons, x.reasons(change));
    }

    private static void judgeWithoutFreezes() {
        FrostCalendar x = new FrostCalendar();
        x.plan(0, 0, 1, 1);
        x.plan(0, 572, 100, 3);
        judge(x, 0, 0, FrostCalendar.NONE, 0);
        judge(x, 1, 0, FrostCalendar.NONE, 0);
    }

    private static void refuseWhatIsNotThere() {
        FrostCalendar x = new FrostCalendar();
        x.plan(0, 0, 1, 1);
        for (int change : new int[] {-1, 1, 29, 30, Integer.MIN_VALUE, Integer.MAX_VALUE}) {
            check.refuses("promise 23, badHours(" + change + ")", Check.NO_INDEX, () -> x.badHours(change));
            check.refuses("promise 24, badHoursOneByOne(" + change + ")", Check.NO_INDEX,
                    () -> x.badHoursOneByOne(change));
            check.refuses("promise 25, firstBad(" + change + ")", Check.NO_INDEX, () -> x.firstBad(change));
            check.refuses("promise 26, reasons(" + change + ")", Check.NO_INDEX, () -> x.reasons(change));
        }
    }

    private static void countAnHourOfTwoFreezesOnce() {
        FrostCalendar x = new FrostCalendar();
        x.once(0, 4, 8, 1);
        x.once(0, 3, 6, 2);
        x.once(0, 9, 10, 3);
        x.plan(0, 0, 20, 1);
        judge(x, 0, 6, 3, 7);
        x.plan(0, 7, 3, 1);
        judge(x, 1, 2, 7, 5);
        judge(x, 0, 6, 3, 7);
    }

    private static void judgeTheSpanAlone() {
        FrostCalendar x = new FrostCalendar();
        x.once(0, 10, 20, 1);
        x.plan(0, 5, 5, 1);
        x.plan(0, 5, 6, 1);
        x.plan(0, 19, 1, 1);
        x.plan(0, 20, 5, 1);
        x.plan(0, 12, 3, 1);
        judge(x, 0, 0, FrostCalendar.NONE, 0);
        judge(x, 1, 1, 10, 1);
        judge(x, 2, 1, 19, 1);
        judge(x, 3, 0, FrostCalendar.NONE, 0);
        judge(x, 4, 3, 12, 1);
        x.move(0, 19);
        judge(x, 0, 1, 19, 1);
    }

    private static void judgeTheLongestSpan() {
        FrostCalendar x = new FrostCalendar();
        x.once(0, 671, 672, 1);
        x.once(0, 572, 573, 1);
        x.plan(0, 572, 100, 1);
        judge(x, 0, 2, 572, 3);
        x.once(0, 0, 672, 1);
        judge(x, 0, 100, 572, 7);
        for (int number = 3; number < 20; number++) {
            x.once(0, 600, 601, 1);
        }
        judge(x, 0, 100, 572, (1 << 20) - 1);
        x.lift(2);
        judge(x, 0, 3, 572, (1 << 20) - 1 - 4);
    }

    private static void judgeTouchingFreezesAlone() {
        FrostCalendar x = new FrostCalendar();
        x.scope(0); // 1
        x.scope(1); // 2
        x.scope(1); // 3
        x.once(2, 10, 12, 1);
        x.once(0, 15, 16, 1);
        for (int scope = 0; scope <= 3; scope++) {
            x.plan(scope, 8, 10, 1);
        }
        judge(x, 0, 3, 10, 3);
        judge(x, 1, 3, 10, 3);
        judge(x, 2, 3, 10, 3);
        judge(x, 3, 1, 15, 2);
    }

    private static void judgeDailyFreezesAndFeasts() {
        FrostCalendar x = new FrostCalendar();
        x.daily(0, 0, 22, 2, 1);
        x.feasts(0, 1, 2);
        x.feast(1, 2);
        x.plan(0, 2, 50, 1);
        judge(x, 0, 10, 22, 3);
        x.plan(0, 2, 20, 1);
        judge(x, 1, 0, FrostCalendar.NONE, 0);
        x.plan(0, 50, 20, 1);
        judge(x, 2, 20, 50, 2);
    }

    private static void leaveOutExcuses() {
        FrostCalendar x = new FrostCalendar();
        x.exceptions(1, 5);
        x.once(0, 10, 20, 1);
        x.once(0, 15, 25, 1);
        x.plan(0, 0, 40, 1);
        x.plan(0, 0, 40, 1);
        judge(x, 0, 15, 10, 3);
        x.excuse(0, 0);
        judge(x, 0, 10, 15, 2);
        judge(x, 1, 15, 10, 3);
        x.excuse(0, 1);
        judge(x, 0, 0, FrostCalendar.NONE, 0);
        x.once(0, 30, 31, 1);
        judge(x, 0, 1, 30, 4);
        x.move(0, 0);
        judge(x, 0, 16, 10, 7);
    }

    private static void leaveOutLiftedFreezes() {
        FrostCalendar x = new FrostCalendar();
        x.once(0, 10, 20, 1);
        x.once(0, 15, 25, 1);
        x.plan(0, 0, 40, 1);
        x.lift(0);
        judge(x, 0, 10, 15, 2);
        x.lift(1);
        judge(x, 0, 0, FrostCalendar.NONE, 0);
    }

    private static void leaveOutFreezesLaidBehindTheBeginning() {
        FrostCalendar x = new FrostCalendar();
        x.daily(0, 0, 20, 21, 1);
        x.plan(0, 0, 10, 1);
        x.plan(0, 0, 10, 1);
        x.approve(0);
        x.begin(0);
        x.once(0, 0, 5, 1);
        judge(x, 0, 0, FrostCalendar.NONE, 0);
        judge(x, 1, 5, 0, 2);
        x.pass(3);
        x.once(0, 4, 6, 1);
        judge(x, 0, 0, FrostCalendar.NONE, 0);
        x.offset(0, 12);
        judge(x, 0, 1, 8, 1);
        judge(x, 1, 7, 0, 7);
        x.pass(20);
        judge(x, 0, 1, 8, 1);
        judge(x, 1, 7, 0, 7);
    }

    private static void judgeByTheDaysOfTheAsking() {
        FrostCalendar x = new FrostCalendar();
        x.feasts(0, 0, 1);
        x.plan(0, 20, 8, 1);
        judge(x, 0, 0, FrostCalendar.NONE, 0);
        x.feast(0, 1);
        judge(x, 0, 4, 24, 1);
        x.offset(0, 2);
        judge(x, 0, 6, 22, 1);
        x.offset(0, -3);
        judge(x, 0, 1, 27, 1);
        x.feast(0, 1);
        judge(x, 0, 0, FrostCalendar.NONE, 0);
    }
}
