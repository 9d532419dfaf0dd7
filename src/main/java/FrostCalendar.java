import java.util.NoSuchElementException;

/**
 * A judge of changes under freezes: it lays freezes for scopes in a tree, plans changes, lets hours
 * go by, and tells which hours of a change are bad and where a span is free.
 */
public final class FrostCalendar {
    public static final int NONE = -1;
    public static final int PLANNED = 0, BEGUN = 1, DONE = 2;

    private static final int HOURS = 672;
    private static final int HOURS_OF_DAY = 24;
    private static final int LONGEST_PASS = 100;
    private static final int LONGEST_SPAN = 100;
    private static final int MOST_SCOPES = 16;
    private static final int LANDS = 4;
    private static final int LEAST_OFFSET = -11, GREATEST_OFFSET = 12;
    private static final int FIRST_DAY = -1, LAST_DAY = 28;
    private static final int MOST_FREEZES = 20;
    private static final int MOST_CHANGES = 30;
    private static final int GREATEST_RANK = 3;
    private static final int MOST_EXCEPTIONS = 50;

    /** For each scope the set of the scopes that it is in: bit s for the scope s, its own too. */
    private final int[] scopesAround = new int[MOST_SCOPES];
    private int scopeCount;
    private final Land[] lands = new Land[LANDS];
    private int hourOfNow;

    /** By number; null where no freeze was laid yet, and where it was lifted. */
    private final Freeze[] freezes = new Freeze[MOST_FREEZES];
    private int laidFreezes;
    private int standingFreezes;

    private final Change[] changes = new Change[MOST_CHANGES];
    private int changeCount;

    /** By rank, from 1 on. */
    private final int[] exceptionsLeft = new int[GREATEST_RANK + 1];

    /** Which hours of a span are known to be bad; made once, since calls must make little. */
    private final boolean[] badMarks = new boolean[LONGEST_SPAN];

    public FrostCalendar() {
        scopesAround[0] = 1;
        scopeCount = 1;
        for (int land = 0; land < LANDS; land++) {
            lands[land] = new Land();
        }
    }

    // ---- scopes, lands, time

    public int scope(int above) throws IndexOutOfBoundsException, IllegalStateException {
        needScope(above);
        if (scopeCount >= MOST_SCOPES) {
            throw new IllegalStateException("there are 16 scopes");
        }
        int added = scopeCount;
        scopesAround[added] = scopesAround[above] | (1 << added);
        scopeCount = added + 1;
        return added;
    }

    public int offset(int land, int offset) throws IndexOutOfBoundsException, IllegalArgumentException {
        Land changed = needLand(land);
        needRange(offset, LEAST_OFFSET, GREATEST_OFFSET);
        int before = changed.offset;
        changed.offset = offset;
        return before;
    }

    public boolean feast(int land, int day) throws IndexOutOfBoundsException, IllegalArgumentException {
        Land changed = needLand(land);
        needRange(day, FIRST_DAY, LAST_DAY);
        changed.turnFeastDay(day);
        return changed.isFeastDay(day);
    }

    public int pass(int hours) throws IllegalArgumentException, IllegalStateException {
        needRange(hours, 1, LONGEST_PASS);
        if (hourOfNow + hours >= HOURS) {
            throw new IllegalStateException("now would be above 671");
        }
        hourOfNow += hours;
        return hourOfNow;
    }

    public int now() {
        return hourOfNow;
    }

    // ---- freezes

    public int once(int scope, int from, int to, int rank)
            throws IndexOutOfBoundsException, IllegalArgumentException, IllegalStateException {
        needScope(scope);
        needRange(from, 0, HOURS - 1);
        needRange(to, from + 1, HOURS);
        needRange(rank, 1, GREATEST_RANK);
        needRoomForFreeze();
        return lay(new FreezeOnce(scope, rank, from, to));
    }

    public int daily(int scope, int land, int first, int second, int rank)
            throws IndexOutOfBoundsException, IllegalArgumentException, IllegalStateException {
        needScope(scope);
        Land itsLand = needLand(land);
        needRange(first, 0, HOURS_OF_DAY - 1);
        needRange(second, 0, HOURS_OF_DAY - 1);
        needRange(rank, 1, GREATEST_RANK);
        needRoomForFreeze();
        return lay(new FreezeDaily(scope, rank, itsLand, first, second));
    }

    public int feasts(int scope, int land, int rank)
            throws IndexOutOfBoundsException, IllegalArgumentException, IllegalStateException {
        needScope(scope);
        Land itsLand = needLand(land);
        needRange(rank, 1, GREATEST_RANK);
        needRoomForFreeze();
        return lay(new FreezeOnFeasts(scope, rank, itsLand));
    }

    public int lift(int freeze) throws NoSuchElementException {
        needFreeze(freeze);
        freezes[freeze] = null;
        standingFreezes--;
        return standingFreezes;
    }

    public int holding(int scope, int hour) throws IndexOutOfBoundsException, IllegalArgumentException {
        needScope(scope);
        needRange(hour, 0, HOURS - 1);
        return holdingAmong(freezesTouchingScope(scope), hour);
    }

    public int hours(int freeze) throws NoSuchElementException {
        Freeze asked = needFreeze(freeze);
        int count = 0;
        for (int hour = 0; hour < HOURS; hour++) {
            if (asked.holdsIn(hour)) {
                count++;
            }
        }
        return count;
    }

    public int nextSpan(int scope, int from, int length) throws IndexOutOfBoundsException, IllegalArgumentException {
        needScope(scope);
        needRange(from, 0, HOURS - 1);
        needRange(length, 1, LONGEST_SPAN);
        int touching = freezesTouchingScope(scope);
        int freeHours = 0;
        for (int hour = from; hour < HOURS; hour++) {
            freeHours = holdingAmong(touching, hour) == 0 ? freeHours + 1 : 0;
            if (freeHours == length) {
                return hour - length + 1;
            }
        }
        return NONE;
    }

    // ---- changes

    public int plan(int scope, int from, int length, int risk)
            throws IndexOutOfBoundsException, IllegalArgumentException, IllegalStateException {
        needScope(scope);
        needRange(length, 1, LONGEST_SPAN);
        needRange(from, hourOfNow, HOURS - length);
        needRange(risk, 1, GREATEST_RANK);
        if (changeCount >= MOST_CHANGES) {
            throw new IllegalStateException("there are 30 changes");
        }
        int planned = changeCount;
        changes[planned] = new Change(scope, from, length, risk);
        changeCount = planned + 1;
        return planned;
    }

    public int move(int change, int from)
            throws IndexOutOfBoundsException, IllegalArgumentException, IllegalStateException {
        Change moved = needChange(change);
        needRange(from, hourOfNow, HOURS - moved.length);
        needPlanned(moved);
        moved.from = from;
        moved.approvedRank = 0;
        moved.excusedFrom = 0;
        return countBadHours(moved);
    }

    public int approve(int change) throws IndexOutOfBoundsException, IllegalStateException {
        Change asked = needChange(change);
        needPlanned(asked);
        if (asked.approvedRank >= asked.risk) {
            throw new IllegalStateException("the change is approved up to its risk");
        }
        asked.approvedRank++;
        return asked.approvedRank;
    }

    public int begin(int change) throws IndexOutOfBoundsException, IllegalStateException {
        Change begun = needChange(change);
        needPlanned(begun);
        if (begun.from != hourOfNow) {
            throw new IllegalStateException("now is not the first hour of the change");
        }
        if (begun.approvedRank < begun.risk) {
            throw new IllegalStateException("the change is not approved up to its risk");
        }
        if (firstBadHour(begun) != NONE) {
            throw new IllegalStateException("the change is not let through");
        }
        begun.hasBegun = true;
        begun.freezesLaidBefore = laidFreezes;
        return begun.hourBehind();
    }

    public int state(int change) throws IndexOutOfBoundsException {
        Change asked = needChange(change);
        if (!asked.hasBegun) {
            return PLANNED;
        }
        return hourOfNow < asked.hourBehind() ? BEGUN : DONE;
    }

    public int approved(int change) throws IndexOutOfBoundsException {
        return needChange(change).approvedRank;
    }

    // ---- exceptions

    public int exceptions(int rank, int number) throws IllegalArgumentException {
        needRange(rank, 1, GREATEST_RANK);
        needRange(number, 0, MOST_EXCEPTIONS);
        int before = exceptionsLeft[rank];
        exceptionsLeft[rank] = number;
        return before;
    }

    public int left(int rank) throws IllegalArgumentException {
        needRange(rank, 1, GREATEST_RANK);
        return exceptionsLeft[rank];
    }

    public int excuse(int change, int freeze)
            throws IndexOutOfBoundsException, NoSuchElementException, IllegalStateException {
        Change excused = needChange(change);
        Freeze from = needFreeze(freeze);
        if (!isInSet(freezesTouchingChange(excused), freeze)) {
            throw new IllegalStateException("the freeze does not touch the change");
        }
        if (isInSet(excused.excusedFrom, freeze)) {
            throw new IllegalStateException("the change is excused from the freeze already");
        }
        int spent = rankToSpend(from.rank);
        if (spent == NONE) {
            throw new IllegalStateException("there is no exception that could be spent");
        }
        exceptionsLeft[spent]--;
        excused.excusedFrom |= 1 << freeze;
        return spent;
    }

    // ---- judgements

    public int badHours(int change) throws IndexOutOfBoundsException {
        return countBadHours(needChange(change));
    }

    public int badHoursOneByOne(int change) throws IndexOutOfBoundsException {
        Change asked = needChange(change);
        int against = freezesAgainst(asked);
        int bad = 0;
        for (int hour = asked.from; hour < asked.hourBehind(); hour++) {
            if (holdingAmong(against, hour) != 0) {
                bad++;
            }
        }
        return bad;
    }

    public int firstBad(int change) throws IndexOutOfBoundsException {
        return firstBadHour(needChange(change));
    }

    public int reasons(int change) throws IndexOutOfBoundsException {
        Change asked = needChange(change);
        int against = freezesAgainst(asked);
        int reasons = 0;
        for (int hour = asked.from; hour < asked.hourBehind(); hour++) {
            reasons |= holdingAmong(against, hour);
        }
        return reasons;
    }

    // ---- what the arguments must be

    private void needScope(int scope) {
        if (scope < 0 || scope >= scopeCount || scope >= MOST_SCOPES) {
            throw new IndexOutOfBoundsException("no such scope");
        }
    }

    private Land needLand(int land) {
        Land found = land >= 0 && land < LANDS ? lands[land] : null;
        if (found == null) {
            throw new IndexOutOfBoundsException("no such land");
        }
        return found;
    }

    private Freeze needFreeze(int freeze) {
        Freeze found = freeze >= 0 && freeze < MOST_FREEZES ? freezes[freeze] : null;
        if (found == null) {
            throw new NoSuchElementException("no such freeze any more");
        }
        return found;
    }

    private Change needChange(int change) {
        Change found = change >= 0 && change < MOST_CHANGES ? changes[change] : null;
        if (found == null) {
            throw new IndexOutOfBoundsException("no such change");
        }
        return found;
    }

    private static void needRange(int value, int least, int greatest) {
        if (value < least || value > greatest) {
            throw new IllegalArgumentException("out of its range");
        }
    }

    private static void needPlanned(Change change) {
        if (change.hasBegun) {
            throw new IllegalStateException("the change is not PLANNED");
        }
    }

    private void needRoomForFreeze() {
        if (laidFreezes >= MOST_FREEZES) {
            throw new IllegalStateException("20 freezes were laid");
        }
    }

    // ---- freezes and what they touch

    private static boolean isInSet(int set, int number) {
        return ((set >> number) & 1) != 0;
    }

    /** The caller has seen that there is room. */
    private int lay(Freeze freeze) {
        int number = laidFreezes;
        freezes[number] = freeze;
        laidFreezes = number + 1;
        standingFreezes++;
        return number;
    }

    private boolean isOneInTheOther(int scope, int other) {
        return isInSet(scopesAround[scope], other) || isInSet(scopesAround[other], scope);
    }

    private int freezesTouchingScope(int scope) {
        int touching = 0;
        for (int number = 0; number < MOST_FREEZES; number++) {
            Freeze freeze = freezes[number];
            if (freeze != null && isOneInTheOther(freeze.scope, scope)) {
                touching |= 1 << number;
            }
        }
        return touching;
    }

    private int freezesTouchingChange(Change change) {
        int laidBefore = (1 << change.freezesLaidBefore) - 1;
        return freezesTouchingScope(change.scope) & laidBefore;
    }

    private int freezesAgainst(Change change) {
        return freezesTouchingChange(change) & ~change.excusedFrom;
    }

    private int holdingAmong(int set, int hour) {
        int holding = 0;
        for (int number = 0; number < MOST_FREEZES; number++) {
            Freeze freeze = freezes[number];
            if (freeze != null && isInSet(set, number) && freeze.holdsIn(hour)) {
                holding |= 1 << number;
            }
        }
        return holding;
    }

    // ---- judging

    /** Goes freeze by freeze, so an hour is marked lest it counts for a second freeze. */
    private int countBadHours(Change change) {
        for (int place = 0; place < LONGEST_SPAN; place++) {
            badMarks[place] = false;
        }
        int against = freezesAgainst(change);
        int bad = 0;
        for (int number = 0; number < MOST_FREEZES; number++) {
            Freeze freeze = freezes[number];
            if (freeze != null && isInSet(against, number)) {
                bad += markBadHours(change, freeze);
            }
        }
        return bad;
    }

    private int markBadHours(Change change, Freeze freeze) {
        int marked = 0;
        for (int place = 0; place < change.length && place < LONGEST_SPAN; place++) {
            if (!badMarks[place] && freeze.holdsIn(change.from + place)) {
                badMarks[place] = true;
                marked++;
            }
        }
        return marked;
    }

    private int firstBadHour(Change change) {
        int against = freezesAgainst(change);
        for (int hour = change.from; hour < change.hourBehind(); hour++) {
            if (holdingAmong(against, hour) != 0) {
                return hour;
            }
        }
        return NONE;
    }

    /** NONE if there is no exception of the rank or of a greater one. */
    private int rankToSpend(int rank) {
        for (int candidate = rank; candidate <= GREATEST_RANK; candidate++) {
            if (exceptionsLeft[candidate] > 0) {
                return candidate;
            }
        }
        return NONE;
    }

    private static final class Land {
        int offset;
        /** Bit 0 for the day -1, the first that there can be. */
        private int feastDays;

        int hourOfDay(int hour) {
            return Math.floorMod(hour + offset, HOURS_OF_DAY);
        }

        int dayOf(int hour) {
            return Math.floorDiv(hour + offset, HOURS_OF_DAY);
        }

        boolean isFeastDay(int day) {
            return isInSet(feastDays, day - FIRST_DAY);
        }

        void turnFeastDay(int day) {
            feastDays ^= 1 << (day - FIRST_DAY);
        }
    }

    private abstract static class Freeze {
        final int scope;
        final int rank;

        Freeze(int scope, int rank) {
            this.scope = scope;
            this.rank = rank;
        }

        abstract boolean holdsIn(int hour);
    }

    private static final class FreezeOnce extends Freeze {
        private final int from;
        private final int to;

        FreezeOnce(int scope, int rank, int from, int to) {
            super(scope, rank);
            this.from = from;
            this.to = to;
        }

        boolean holdsIn(int hour) {
            return hour >= from && hour < to;
        }
    }

    private static final class FreezeDaily extends Freeze {
        private final Land land;
        private final int first;
        private final int second;

        FreezeDaily(int scope, int rank, Land land, int first, int second) {
            super(scope, rank);
            this.land = land;
            this.first = first;
            this.second = second;
        }

        boolean holdsIn(int hour) {
            int hourOfDay = land.hourOfDay(hour);
            if (first < second) {
                return hourOfDay >= first && hourOfDay < second;
            }
            // If both are the same, this is true of every hour, as it has to be.
            return hourOfDay >= first || hourOfDay < second;
        }
    }

    private static final class FreezeOnFeasts extends Freeze {
        private final Land land;

        FreezeOnFeasts(int scope, int rank, Land land) {
            super(scope, rank);
            this.land = land;
        }

        boolean holdsIn(int hour) {
            return land.isFeastDay(land.dayOf(hour));
        }
    }

    private static final class Change {
        final int scope;
        final int length;
        final int risk;
        int from;
        int approvedRank;
        /** Bit k for the freeze k. */
        int excusedFrom;
        boolean hasBegun;
        /** The freezes with smaller numbers can touch it; until it begins, that is each one. */
        int freezesLaidBefore = MOST_FREEZES;

        Change(int scope, int from, int length, int risk) {
            this.scope = scope;
            this.from = from;
            this.length = length;
            this.risk = risk;
        }

        int hourBehind() {
            return from + length;
        }
    }
}
