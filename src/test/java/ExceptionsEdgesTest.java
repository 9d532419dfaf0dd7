/** Promises 20 to 22 at their edges: none, one and fifty exceptions, each rank, each state. */
public final class ExceptionsEdgesTest {
    private static final Check check = new Check("ExceptionsEdgesTest");
    private static final int PLANNED = FrostCalendar.PLANNED, BEGUN = FrostCalendar.BEGUN, DONE = FrostCalendar.DONE;

    public static void main(String[] args) {
        promise20HowManyThereWere();
        promise20SetsAndDoesNotAdd();
        promise21HowManyAreLeft();
        promise22EveryStock();
        promise22TheLastOne();
        promise22FiftyAreFifty();
        promise22InWhateverState();
        promise22WithoutABadHour();
        promise22AlreadyExcused();
        promise22LaidBehindTheBeginning();
        promise22EachFreezeAndChange();
        promise22WhatIsSpentIsSpent();
        check.close();
    }

    private static Asked fresh() {
        return new Asked(check);
    }

    private static void stock(Asked x, int first, int second, int third) {
        x.done("exceptions", 1, first);
        x.done("exceptions", 2, second);
        x.done("exceptions", 3, third);
    }

    private static void left(Asked x, int first, int second, int third) {
        x.due(first, "left", 1);
        x.due(second, "left", 2);
        x.due(third, "left", 3);
    }

    private static void promise20HowManyThereWere() {
        check.promise(20, "Returns how many there were");
        for (int rank = 1; rank <= 3; rank++) {
            Asked x = fresh();
            int before = 0;
            for (int number : new int[] {50, 50, 0, 0, 1, 49, 50, 25, 0}) {
                x.due(before, "exceptions", rank, number);
                before = number;
            }
        }
        Asked x = fresh();
        x.done("once", 0, 0, 1, 2);
        x.done("plan", 0, 0, 1, 1);
        x.done("exceptions", 2, 50);
        x.done("excuse", 0, 0);
        x.due(49, "exceptions", 2, 50);
        x.due(50, "exceptions", 2, 0);
    }

    private static void promise20SetsAndDoesNotAdd() {
        check.promise(20, "Sets how many exceptions of a rank there are");
        for (int rank = 1; rank <= 3; rank++) {
            Asked x = fresh();
            stock(x, 10, 20, 30);
            for (int number : new int[] {0, 1, 50}) {
                x.done("exceptions", rank, number);
                left(x, rank == 1 ? number : 10, rank == 2 ? number : 20, rank == 3 ? number : 30);
            }
        }
    }

    private static void promise21HowManyAreLeft() {
        check.promise(21, "Returns how many exceptions of a rank are left");
        Asked x = fresh();
        left(x, 0, 0, 0);
        stock(x, 50, 0, 1);
        left(x, 50, 0, 1);
        for (int rank = 1; rank <= 3; rank++) {
            x.done("once", 0, 0, 1, rank);
        }
        x.done("plan", 0, 0, 1, 1);
        x.done("excuse", 0, 0);
        left(x, 49, 0, 1);
        x.done("excuse", 0, 1);
        left(x, 49, 0, 0);
        x.refused(Check.BAD_STATE, "excuse", 0, 2);
        left(x, 49, 0, 0);
    }

    /** Each rank of a freeze with each stock of none or two of the three ranks. */
    private static void promise22EveryStock() {
        check.promise(22, "an exception of the freeze's rank, or, if there is none, of the next greater rank");
        for (int rank = 1; rank <= 3; rank++) {
            for (int stocked = 0; stocked < 8; stocked++) {
                int[] number = {0, 2 * (stocked & 1), stocked & 2, (stocked & 4) / 2};
                int due = rank;
                while (due <= 3 && number[due] == 0) {
                    due++;
                }
                Asked x = fresh();
                x.done("once", 0, 0, 1, rank);
                x.done("plan", 0, 0, 1, 1);
                stock(x, number[1], number[2], number[3]);
                if (due <= 3) {
                    x.due(due, "excuse", 0, 0);
                    number[due]--;
                } else {
                    x.refused(Check.BAD_STATE, "excuse", 0, 0);
                }
                left(x, number[1], number[2], number[3]);
                x.due(due <= 3 ? 0 : 1, "badHours", 0);
            }
        }
    }

    private static void promise22TheLastOne() {
        check.promise(22, "there is no exception that could be spent");
        Asked x = fresh();
        x.done("once", 0, 0, 1, 1);
        for (int change = 0; change < 4; change++) {
            x.done("plan", 0, 0, 1, 3);
        }
        stock(x, 1, 1, 1);
        x.due(1, "excuse", 0, 0);
        x.due(2, "excuse", 1, 0);
        x.due(3, "excuse", 2, 0);
        x.refused(Check.BAD_STATE, "excuse", 3, 0);
        left(x, 0, 0, 0);
        x.done("exceptions", 3, 1);
        x.due(3, "excuse", 3, 0);
        left(x, 0, 0, 0);
    }

    private static void promise22FiftyAreFifty() {
        for (int rank = 1; rank <= 3; rank++) {
            check.promise(22, "excused from freezes as long as there are exceptions to spend");
            Asked x = fresh();
            for (int freeze = 0; freeze < 20; freeze++) {
                x.done("once", 0, 0, 1, rank);
            }
            for (int change = 0; change < 3; change++) {
                x.done("plan", 0, 0, 1, 1);
            }
            x.done("exceptions", rank, 50);
            for (int spent = 0; spent < 50; spent++) {
                x.due(50 - spent, "left", rank);
                x.due(rank, "excuse", spent / 20, spent % 20);
            }
            x.due(0, "left", rank);
            x.refused(Check.BAD_STATE, "excuse", 2, 10);
            x.due((1 << 20) - (1 << 10), "reasons", 2);
        }
    }

    private static void promise22InWhateverState() {
        check.promise(22, "Excuses a change, in whatever state, from a freeze");
        Asked x = fresh();
        stock(x, 9, 0, 0);
        for (int freeze = 0; freeze < 3; freeze++) {
            x.done("daily", 0, freeze, 12 + freeze, 13 + freeze, 1);
        }
        x.done("plan", 0, 0, 6, 1);
        x.done("plan", 0, 0, 6, 1);
        x.due(PLANNED, "state", 0);
        x.due(1, "excuse", 0, 0);
        x.done("approve", 0);
        x.done("begin", 0);
        for (int land = 0; land < 3; land++) {
            x.done("offset", land, 12);
        }
        x.due(BEGUN, "state", 0);
        x.due(6, "reasons", 0);
        x.due(1, "excuse", 0, 1);
        x.due(4, "reasons", 0);
        x.refused(Check.BAD_STATE, "excuse", 0, 1);
        x.done("pass", 6);
        x.due(DONE, "state", 0);
        x.due(1, "excuse", 0, 2);
        x.due(0, "reasons", 0);
        x.refused(Check.BAD_STATE, "excuse", 0, 2);
        x.due(PLANNED, "state", 1);
        x.due(1, "excuse", 1, 2);
        left(x, 5, 0, 0);
    }

    private static void promise22WithoutABadHour() {
        check.promise(22, "A freeze touches a change if it touches its scope");
        Asked x = fresh();
        stock(x, 9, 0, 0);
        x.scopesInARow();
        x.done("once", 0, 300, 301, 1);
        x.done("feasts", 2, 0, 1);
        x.done("plan", 1, 5, 1, 1);
        x.due(0, "reasons", 0);
        x.due(1, "excuse", 0, 0);
        x.due(1, "excuse", 0, 1);
        x.done("feast", 0, 0);
        x.due(0, "badHours", 0);
        left(x, 7, 0, 0);
    }

    private static void promise22AlreadyExcused() {
        check.promise(22, "the change is excused from it already");
        Asked x = fresh();
        stock(x, 9, 9, 9);
        x.done("once", 0, 0, 1, 1);
        x.done("once", 0, 0, 1, 1);
        x.done("plan", 0, 0, 1, 1);
        x.done("plan", 0, 0, 1, 1);
        x.due(1, "excuse", 0, 0);
        x.refused(Check.BAD_STATE, "excuse", 0, 0);
        x.due(1, "excuse", 0, 1);
        x.due(1, "excuse", 1, 0);
        x.refused(Check.BAD_STATE, "excuse", 0, 1);
        x.refused(Check.BAD_STATE, "excuse", 1, 0);
        x.done("pass", 1);
        x.refused(Check.BAD_STATE, "excuse", 0, 0);
        left(x, 6, 9, 9);
        x.done("move", 0, 1);
        x.due(1, "excuse", 0, 0);
        x.refused(Check.BAD_STATE, "excuse", 0, 0);
        x.refused(Check.BAD_STATE, "excuse", 1, 0);
    }

    private static void promise22LaidBehindTheBeginning() {
        check.promise(22, "one that was laid behind the beginning of a change, be it in the same hour, does not touch");
        Asked x = fresh();
        stock(x, 9, 9, 9);
        x.done("once", 0, 300, 301, 1);
        x.done("plan", 0, 0, 1, 1);
        x.done("once", 0, 300, 301, 1);
        x.done("approve", 0);
        x.done("once", 0, 300, 301, 1);
        x.done("begin", 0);
        x.done("once", 0, 300, 301, 1);
        x.done("daily", 0, 0, 5, 6, 1);
        x.done("feasts", 0, 0, 1);
        for (int freeze = 3; freeze <= 5; freeze++) {
            x.refused(Check.BAD_STATE, "excuse", 0, freeze);
        }
        x.done("pass", 1);
        x.done("once", 0, 0, 1, 1);
        for (int freeze = 3; freeze <= 6; freeze++) {
            x.refused(Check.BAD_STATE, "excuse", 0, freeze);
        }
        left(x, 9, 9, 9);
        for (int freeze = 0; freeze <= 2; freeze++) {
            x.due(1, "excuse", 0, freeze);
        }
        left(x, 6, 9, 9);
    }

    private static void promise22EachFreezeAndChange() {
        check.promise(22, "Excuses a change, in whatever state, from a freeze");
        Asked x = fresh();
        for (int freeze = 0; freeze < 20; freeze++) {
            x.done("once", 0, 0, 1, 3);
        }
        for (int change = 0; change < 30; change++) {
            x.done("plan", 0, 0, 1, 1);
        }
        x.done("exceptions", 3, 50);
        int all = (1 << 20) - 1;
        for (int change = 0; change < 30; change++) {
            int freeze = change * 7 % 20;
            x.due(all, "reasons", change);
            x.due(3, "excuse", change, freeze);
            x.due(all - (1 << freeze), "reasons", change);
            x.due(change == 29 ? all - (1 << freeze) : all, "reasons", 29);
        }
    }

    private static void promise22WhatIsSpentIsSpent() {
        check.promise(22, "To excuse a change from a freeze spends an exception");
        Asked x = fresh();
        stock(x, 3, 0, 0);
        x.done("once", 0, 0, 1, 1);
        x.done("plan", 0, 5, 1, 1);
        x.done("plan", 0, 5, 1, 1);
        x.done("excuse", 0, 0);
        x.done("excuse", 1, 0);
        left(x, 1, 0, 0);
        x.done("move", 0, 6);
        left(x, 1, 0, 0);
        x.done("lift", 0);
        left(x, 1, 0, 0);
        x.done("pass", 100);
        left(x, 1, 0, 0);
    }
}
