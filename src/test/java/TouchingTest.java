/**
 * "A freeze touches a scope if one of both is in the other", and a change by its scope: for each call
 * that asks for it, over every pair of scopes of a full tree.
 */
public final class TouchingTest {
    private static final Check check = new Check("TouchingTest");
    private static final int SCOPES = 16;

    /** For each scope the one that it is below. */
    private static final int[] CHAIN = {-1, 0, 1, 2, 3, 4, 5, 6, 7, 8, 9, 10, 11, 12, 13, 14};
    private static final int[] STAR = {-1, 0, 0, 0, 0, 0, 0, 0, 0, 0, 0, 0, 0, 0, 0, 0};
    private static final int[] TREE = {-1, 0, 0, 1, 1, 2, 3, 3, 5, 7, 7, 9, 0, 12, 13, 5};
    private static final int[][] TREES = {CHAIN, STAR, TREE};

    public static void main(String[] args) {
        for (int[] above : TREES) {
            freezesTouchScopes(above);
            freezesTouchChanges(above);
            freezesStopChanges(above);
            changesAreExcused(above);
        }
        check.close();
    }

    private static boolean isIn(int[] above, int scope, int other) {
        return scope == other || scope != 0 && isIn(above, above[scope], other);
    }

    private static boolean touches(int[] above, int scope, int other) {
        return isIn(above, scope, other) || isIn(above, other, scope);
    }

    private static int touching(int[] above, int scope) {
        int set = 0;
        for (int other = 0; other < SCOPES; other++) {
            set |= touches(above, scope, other) ? 1 << other : 0;
        }
        return set;
    }

    private static Asked withScopes(int[] above) {
        Asked x = new Asked(check);
        for (int scope = 1; scope < SCOPES; scope++) {
            x.done("scope", above[scope]);
        }
        return x;
    }

    /** The freeze of the scope k has the number k, and holds in the hour k alone. */
    private static Asked withFreezes(int[] above) {
        Asked x = withScopes(above);
        for (int scope = 0; scope < SCOPES; scope++) {
            x.done("once", scope, scope, scope + 1, 1);
        }
        return x;
    }

    private static void freezesTouchScopes(int[] above) {
        Asked x = withFreezes(above);
        check.promise(2, "a scope is in another one if it is that one, or below one that is in it");
        for (int scope = 0; scope < SCOPES; scope++) {
            int set = 0;
            for (int hour = 0; hour < SCOPES; hour++) {
                set |= x.number("holding", scope, hour);
            }
            check.is("all freezes of the scope " + scope, touching(above, scope), set);
        }
        check.promise(11, "the freezes that touch a scope");
        Asked y = withScopes(above);
        for (int scope = 0; scope < SCOPES; scope++) {
            y.done("once", scope, 7, 8, 1);
        }
        for (int scope = 0; scope < SCOPES; scope++) {
            y.due(touching(above, scope), "holding", scope, 7);
        }
        check.promise(13, "in no hour of which a freeze that touches a scope holds");
        for (int scope = 0; scope < SCOPES; scope++) {
            x.due(Integer.numberOfTrailingZeros(~touching(above, scope)), "nextSpan", scope, 0, 1);
        }
        check.promise(12, "Returns in how many hours a freeze holds");
        for (int freeze = 0; freeze < SCOPES; freeze++) {
            x.due(1, "hours", freeze);
        }
    }

    private static void freezesTouchChanges(int[] above) {
        Asked x = withFreezes(above);
        for (int scope = 0; scope < SCOPES; scope++) {
            x.done("plan", scope, 100, 16, 1);
        }
        check.promise(15, "how many bad hours it has then");
        for (int scope = 0; scope < SCOPES; scope++) {
            x.due(Integer.bitCount(touching(above, scope)), "move", scope, 0);
        }
        check.promise(23, "a freeze touches a change if it touches its scope");
        for (int scope = 0; scope < SCOPES; scope++) {
            x.due(Integer.bitCount(touching(above, scope)), "badHours", scope);
        }
        check.promise(24, "a freeze touches a change if it touches its scope");
        for (int scope = 0; scope < SCOPES; scope++) {
            x.due(Integer.bitCount(touching(above, scope)), "badHoursOneByOne", scope);
        }
        check.promise(25, "a freeze touches a change if it touches its scope");
        for (int scope = 0; scope < SCOPES; scope++) {
            x.due(Integer.numberOfTrailingZeros(touching(above, scope)), "firstBad", scope);
        }
        check.promise(26, "a freeze touches a change if it touches its scope");
        for (int scope = 0; scope < SCOPES; scope++) {
            x.due(touching(above, scope), "reasons", scope);
        }
    }

    private static void freezesStopChanges(int[] above) {
        check.promise(17, "it is not let through");
        for (int frozen = 0; frozen < SCOPES; frozen++) {
            Asked x = withScopes(above);
            x.done("once", frozen, 0, 1, 1);
            for (int scope = 0; scope < SCOPES; scope++) {
                x.done("plan", scope, 0, 1, 1);
                x.done("approve", scope);
                if (touches(above, frozen, scope)) {
                    x.refused(Check.BAD_STATE, "begin", scope);
                } else {
                    x.due(1, "begin", scope);
                }
            }
        }
    }

    private static void changesAreExcused(int[] above) {
        check.promise(22, "IllegalStateException if the freeze does not touch the change");
        Asked x = withFreezes(above);
        for (int scope = 0; scope < SCOPES; scope++) {
            x.done("plan", scope, 500, 1, 1);
            x.done("exceptions", 1, 50);
            for (int freeze = 0; freeze < SCOPES; freeze++) {
                if (touches(above, freeze, scope)) {
                    x.due(1, "excuse", scope, freeze);
                } else {
                    x.refused(Check.BAD_STATE, "excuse", scope, freeze);
                }
            }
        }
    }
}
