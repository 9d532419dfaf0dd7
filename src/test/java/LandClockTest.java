/**
 * The hours of the day and the days of a land, under every offset and in every hour (promises 3, 8, 9
 * and 12). What is due is found by a clock that is turned hour by hour, without a division.
 */
public final class LandClockTest {
    private static final Check check = new Check("LandClockTest");

    /** The clock and the calendar on a wall of the land, at the hour 0 and on. */
    private static final class WallClock {
        int hourOfDay;
        int day;

        WallClock(int offset) {
            for (int step = 0; step < offset; step++) {
                turn();
            }
            for (int step = 0; step > offset; step--) {
                turnBack();
            }
        }

        void turn() {
            hourOfDay++;
            if (hourOfDay == 24) {
                hourOfDay = 0;
                day++;
            }
        }

        private void turnBack() {
            hourOfDay--;
            if (hourOfDay == -1) {
                hourOfDay = 23;
                day--;
            }
        }
    }

    public static void main(String[] args) {
        everyHourHasItsHourOfTheDay();
        everyPairOfHoursHoldsDaily();
        everyDayHasItsHours();
        everyLandHasItsOwnClock();
        theWrapOfTheDay();
        check.close();
    }

    private static void everyHourHasItsHourOfTheDay() {
        check.promise(8, "its hour of the day the rest of that by 24, from 0 to 23");
        for (int offset = -11; offset <= 12; offset++) {
            for (int half = 0; half < 2; half++) {
                compareHoursOfDay(offset, 336 * half, 0, 12);
                compareHoursOfDay(offset, 336 * half, 12, 24);
            }
        }
    }

    /** Lays a freeze for each hour of the day from least to below behind, and asks which one holds. */
    private static void compareHoursOfDay(int offset, int from, int least, int behind) {
        Asked x = new Asked(check);
        for (int hourOfDay = least; hourOfDay < behind; hourOfDay++) {
            x.done("daily", 0, 1, hourOfDay, hourOfDay == 23 ? 0 : hourOfDay + 1, 1);
        }
        x.done("offset", 1, offset);
        WallClock clock = new WallClock(offset);
        for (int hour = 0; hour < from + 336; hour++, clock.turn()) {
            boolean isThere = clock.hourOfDay >= least && clock.hourOfDay < behind;
            if (hour >= from) {
                x.due(isThere ? 1 << (clock.hourOfDay - least) : 0, "holding", 0, hour);
            }
        }
    }

    private static void everyPairOfHoursHoldsDaily() {
        check.promise(8, "if the first one is greater than the second one; if both are the same, in all hours");
        for (int offset : new int[] {0, 7, 12, -1, -11}) {
            for (int first = 0; first < 24; first++) {
                for (int second = 0; second < 24; second++) {
                    comparePair(offset, first, second);
                }
            }
        }
    }

    private static void comparePair(int offset, int first, int second) {
        boolean[] holds = new boolean[24];
        int count = 0;
        for (int hour = first; count == 0 || hour != second; hour = hour == 23 ? 0 : hour + 1) {
            holds[hour] = true;
            count++;
        }
        Asked x = new Asked(check);
        x.done("offset", 2, offset);
        x.due(0, "daily", 0, 2, first, second, 1);
        x.due(28 * count, "hours", 0);
        WallClock clock = new WallClock(offset);
        for (int hour = 0; hour < 24; hour++, clock.turn()) {
            x.due(holds[clock.hourOfDay] ? 1 : 0, "holding", 0, hour);
            x.due(holds[clock.hourOfDay] ? 1 : 0, "holding", 0, 648 + hour);
        }
    }

    private static void everyDayHasItsHours() {
        check.promise(9, "its day this sum divided by 24, rounded down, so from -1 to 28");
        for (int offset = -11; offset <= 12; offset++) {
            int[] first = new int[30];
            int[] count = new int[30];
            WallClock clock = new WallClock(offset);
            for (int hour = 0; hour < 672; hour++, clock.turn()) {
                if (count[clock.day + 1] == 0) {
                    first[clock.day + 1] = hour;
                }
                count[clock.day + 1]++;
            }
            for (int day = -1; day <= 28; day++) {
                compareDay(offset, day, first[day + 1], count[day + 1]);
            }
        }
    }

    private static void compareDay(int offset, int day, int first, int count) {
        Asked x = new Asked(check);
        x.done("feasts", 0, 3, 1);
        x.done("offset", 3, offset);
        x.done("feast", 3, day);
        x.due(count, "hours", 0);
        for (int hour = Math.max(0, first - 2); hour <= Math.min(671, first + count + 1); hour++) {
            boolean isInDay = hour >= first && hour < first + count;
            x.due(isInDay ? 1 : 0, "holding", 0, hour);
        }
    }

    private static void everyLandHasItsOwnClock() {
        check.promise(3, "lands 0 to 3, each with an offset");
        for (int moved = 0; moved <= 3; moved++) {
            Asked x = new Asked(check);
            for (int land = 0; land <= 3; land++) {
                x.done("daily", 0, land, 0, 1, 1);
            }
            x.due(0b1111, "holding", 0, 24);
            x.done("offset", moved, 1);
            x.due(0b1111 - (1 << moved), "holding", 0, 24);
            x.due(1 << moved, "holding", 0, 23);
        }
        check.promise(4, "a feast day of a land");
        for (int celebrating = 0; celebrating <= 3; celebrating++) {
            Asked x = new Asked(check);
            for (int land = 0; land <= 3; land++) {
                x.done("feasts", 0, land, 1);
            }
            x.done("feast", celebrating, 1);
            x.due(1 << celebrating, "holding", 0, 24);
        }
    }

    /** The edges that the sweeps hold too, written out, so that they can be read. */
    private static void theWrapOfTheDay() {
        check.promise(8, "The hour of a land, at some hour, is that hour and the offset together");
        Asked x = new Asked(check);
        x.done("daily", 0, 0, 13, 14, 1);
        x.done("daily", 0, 0, 23, 0, 1);
        x.done("daily", 0, 0, 0, 1, 1);
        x.done("daily", 0, 0, 11, 12, 1);
        x.done("offset", 0, -11);
        x.due(1, "holding", 0, 0);
        x.due(2, "holding", 0, 10);
        x.due(4, "holding", 0, 11);
        x.done("offset", 0, 12);
        x.due(2, "holding", 0, 659);
        x.due(4, "holding", 0, 660);
        x.due(8, "holding", 0, 671);

        check.promise(9, "rounded down, so from -1 to 28");
        Asked y = new Asked(check);
        y.done("feasts", 0, 0, 1);
        y.done("feast", 0, -1);
        y.done("feast", 0, 28);
        y.due(0, "hours", 0);
        y.done("offset", 0, -1);
        y.due(1, "hours", 0);
        y.due(1, "holding", 0, 0);
        y.due(0, "holding", 0, 1);
        y.done("offset", 0, 1);
        y.due(1, "hours", 0);
        y.due(0, "holding", 0, 670);
        y.due(1, "holding", 0, 671);
        y.done("offset", 0, -11);
        y.due(11, "hours", 0);
        y.done("offset", 0, 12);
        y.due(12, "hours", 0);
    }
}
