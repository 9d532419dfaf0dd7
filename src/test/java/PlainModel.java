import java.util.ArrayList;
import java.util.HashSet;
import java.util.List;
import java.util.NoSuchElementException;
import java.util.Set;

/**
 * The document's words once more, as slowly and plainly as can be, to compare the class with. It
 * shares no code with the class and stores sets where that stores bits.
 */
final class PlainModel {
    private static final class Freeze {
        int number;
        int scope;
        int rank;
        String kind;
        int land;
        int first;
        int second;
        boolean lifted;
    }

    private static final class Change {
        int scope;
        int from;
        int length;
        int risk;
        int approved;
        boolean begun;
        final Set<Freeze> excuses = new HashSet<>();
        final Set<Freeze> laidBehindBeginning = new HashSet<>();
    }

    private final List<Integer> above = new ArrayList<>(List.of(-1));
    private final int[] offsets = new int[4];
    private final List<Set<Integer>> feastDays =
            List.of(new HashSet<>(), new HashSet<>(), new HashSet<>(), new HashSet<>());
    private final List<Freeze> freezes = new ArrayList<>();
    private final List<Change> changes = new ArrayList<>();
    private final int[] exceptions = new int[4];
    private int now;

    private static void index(boolean holds) {
        if (!holds) {
            throw new IndexOutOfBoundsException();
        }
    }

    private static void argument(boolean holds) {
        if (!holds) {
            throw new IllegalArgumentException();
        }
    }

    private static void state(boolean holds) {
        if (!holds) {
            throw new IllegalStateException();
        }
    }

    private boolean isScope(long scope) {
        return 0 <= scope && scope < above.size();
    }

    private static boolean isLand(int land) {
        return land == 0 || land == 1 || land == 2 || land == 3;
    }

    private static boolean isRank(int rank) {
        return rank == 1 || rank == 2 || rank == 3;
    }

    private Freeze freeze(int number) {
        for (Freeze freeze : freezes) {
            if (freeze.number == number && !freeze.lifted) {
                return freeze;
            }
        }
        throw new NoSuchElementException();
    }

    private Change change(int number) {
        index(0 <= number && number < changes.size());
        return changes.get(number);
    }

    private boolean isIn(int scope, int other) {
        for (int walked = scope; walked != -1; walked = above.get(walked)) {
            if (walked == other) {
                return true;
            }
        }
        return false;
    }

    private boolean touches(Freeze freeze, int scope) {
        return !freeze.lifted && (isIn(freeze.scope, scope) || isIn(scope, freeze.scope));
    }

    private boolean touches(Freeze freeze, Change change) {
        return touches(freeze, change.scope) && !change.laidBehindBeginning.contains(freeze);
    }

    private boolean holds(Freeze freeze, int hour) {
        if (freeze.kind.equals("once")) {
            return freeze.first <= hour && hour < freeze.second;
        }
        // Four days more, so that no hour of a land is below 0.
        int shifted = hour + offsets[freeze.land] + 4 * 24;
        if (freeze.kind.equals("feasts")) {
            return feastDays.get(freeze.land).contains(shifted / 24 - 4);
        }
        for (int hourOfDay = freeze.first, steps = 0; steps < 24; hourOfDay = (hourOfDay + 1) % 24, steps++) {
            if (hourOfDay == freeze.second && steps > 0) {
                return false;
            }
            if (hourOfDay == shifted % 24) {
                return true;
            }
        }
        return false;
    }

    /** For the drawing of calls: the next change from a number on that could begin now, else that number. */
    int changeOfNow(int number) {
        for (int steps = 0; steps < changes.size() && number >= 0; steps++) {
            Change change = changes.get((number % 30 + steps) % changes.size());
            if (!change.begun && change.from == now) {
                return (number % 30 + steps) % changes.size();
            }
        }
        return number;
    }

    private List<Integer> badHourList(Change change) {
        List<Integer> bad = new ArrayList<>();
        for (int hour = change.from; hour < change.from + change.length; hour++) {
            for (Freeze freeze : freezes) {
                if (touches(freeze, change) && !change.excuses.contains(freeze) && holds(freeze, hour)) {
                    bad.add(hour);
                    break;
                }
            }
        }
        return bad;
    }

    int scope(int below) {
        index(isScope(below));
        state(above.size() < 16);
        above.add(below);
        return above.size() - 1;
    }

    int offset(int land, int offset) {
        index(isLand(land));
        argument(-11 <= offset && offset <= 12);
        int before = offsets[land];
        offsets[land] = offset;
        return before;
    }

    int feast(int land, int day) {
        index(isLand(land));
        argument(-1 <= day && day <= 28);
        if (feastDays.get(land).remove(day)) {
            return 0;
        }
        feastDays.get(land).add(day);
        return 1;
    }

    int pass(int hours) {
        argument(1 <= hours && hours <= 100);
        state(now + hours <= 671);
        return now += hours;
    }

    int now() {
        return now;
    }

    private int lay(String kind, int scope, int rank, int land, int first, int second) {
        state(freezes.size() < 20);
        Freeze freeze = new Freeze();
        freeze.number = freezes.size();
        freeze.kind = kind;
        freeze.scope = scope;
        freeze.rank = rank;
        freeze.land = land;
        freeze.first = first;
        freeze.second = second;
        for (Change change : changes) {
            if (change.begun) {
                change.laidBehindBeginning.add(freeze);
            }
        }
        freezes.add(freeze);
        return freeze.number;
    }

    int once(int scope, int from, int to, int rank) {
        index(isScope(scope));
        argument(0 <= from && from <= 671 && from < to && to <= 672 && isRank(rank));
        return lay("once", scope, rank, 0, from, to);
    }

    int daily(int scope, int land, int first, int second, int rank) {
        index(isScope(scope) && isLand(land));
        argument(0 <= first && first <= 23 && 0 <= second && second <= 23 && isRank(rank));
        return lay("daily", scope, rank, land, first, second);
    }

    int feasts(int scope, int land, int rank) {
        index(isScope(scope) && isLand(land));
        argument(isRank(rank));
        return lay("feasts", scope, rank, land, 0, 0);
    }

    int lift(int number) {
        freeze(number).lifted = true;
        int standing = 0;
        for (Freeze freeze : freezes) {
            standing += freeze.lifted ? 0 : 1;
        }
        return standing;
    }

    int holding(int scope, int hour) {
        index(isScope(scope));
        argument(0 <= hour && hour <= 671);
        int set = 0;
        for (Freeze freeze : freezes) {
            set += touches(freeze, scope) && holds(freeze, hour) ? 1 << freeze.number : 0;
        }
        return set;
    }

    int hours(int number) {
        Freeze freeze = freeze(number);
        int hours = 0;
        for (int hour = 0; hour <= 671; hour++) {
            hours += holds(freeze, hour) ? 1 : 0;
        }
        return hours;
    }

    int nextSpan(int scope, int from, int length) {
        index(isScope(scope));
        argument(0 <= from && from <= 671 && 1 <= length && length <= 100);
        for (int first = from; first + length - 1 <= 671; first++) {
            boolean free = true;
            for (int hour = first; hour < first + length && free; hour++) {
                free = holding(scope, hour) == 0;
            }
            if (free) {
                return first;
            }
        }
        return -1;
    }

    int plan(int scope, int from, int length, int risk) {
        index(isScope(scope));
        argument(from >= now && 1 <= length && length <= 100 && (long) from + length - 1 <= 671 && isRank(risk));
        state(changes.size() < 30);
        Change change = new Change();
        change.scope = scope;
        change.from = from;
        change.length = length;
        change.risk = risk;
        changes.add(change);
        return changes.size() - 1;
    }

    int move(int number, int from) {
        Change change = change(number);
        argument(from >= now && (long) from + change.length - 1 <= 671);
        state(!change.begun);
        change.from = from;
        change.approved = 0;
        change.excuses.clear();
        return badHourList(change).size();
    }

    int approve(int number) {
        Change change = change(number);
        state(!change.begun && change.approved < change.risk);
        return ++change.approved;
    }

    int begin(int number) {
        Change change = change(number);
        state(!change.begun && now == change.from && change.approved == change.risk && badHourList(change).isEmpty());
        change.begun = true;
        return change.from + change.length;
    }

    int state(int number) {
        Change change = change(number);
        return !change.begun ? 0 : now <= change.from + change.length - 1 ? 1 : 2;
    }

    int approved(int number) {
        return change(number).approved;
    }

    int exceptions(int rank, int number) {
        argument(isRank(rank) && 0 <= number && number <= 50);
        int before = exceptions[rank];
        exceptions[rank] = number;
        return before;
    }

    int left(int rank) {
        argument(isRank(rank));
        return exceptions[rank];
    }

    int excuse(int number, int freezeNumber) {
        Change change = change(number);
        Freeze freeze = freeze(freezeNumber);
        state(touches(freeze, change) && !change.excuses.contains(freeze));
        int rank = freeze.rank;
        while (rank <= 3 && exceptions[rank] == 0) {
            rank++;
        }
        state(rank <= 3);
        exceptions[rank]--;
        change.excuses.add(freeze);
        return rank;
    }

    int badHours(int number) {
        return badHourList(change(number)).size();
    }

    int firstBad(int number) {
        List<Integer> bad = badHourList(change(number));
        return bad.isEmpty() ? -1 : bad.get(0);
    }

    int reasons(int number) {
        Change change = change(number);
        int set = 0;
        for (Freeze freeze : freezes) {
            boolean reason = false;
            for (int hour = change.from; hour < change.from + change.length; hour++) {
                reason |= holds(freeze, hour);
            }
            set += reason && touches(freeze, change) && !change.excuses.contains(freeze) ? 1 << freeze.number : 0;
        }
        return set;
    }
}
