/**
 * "If several exceptions apply to a call, the one that its comment lists first is thrown", for each
 * call to which several can apply.
 */
public final class OrderOfExceptionsTest {
    private static final Check check = new Check("OrderOfExceptionsTest");
    private static final String WORDS =
            "if several exceptions apply to a call, the one that its comment lists first is thrown";
    private static final int MIN = Integer.MIN_VALUE, MAX = Integer.MAX_VALUE;

    public static void main(String[] args) {
        promise2Scope();
        promise3Offset();
        promise4Feast();
        promise5Pass();
        promise7Once();
        promise8Daily();
        promise9Feasts();
        promise11Holding();
        promise13NextSpan();
        promise14Plan();
        promise15Move();
        promises16And17ApproveAndBegin();
        promise22Excuse();
        check.close();
    }

    private static Asked withTwentyFreezes() {
        Asked x = new Asked(check);
        for (int freeze = 0; freeze < 20; freeze++) {
            x.done("once", 0, 300, 301, 1);
        }
        return x;
    }

    private static void promise2Scope() {
        check.promise(2, WORDS);
        Asked x = new Asked(check);
        for (int scope = 1; scope < 16; scope++) {
            x.done("scope", 0);
        }
        for (int above : new int[] {-1, 16, MIN, MAX}) {
            x.refused(Check.NO_INDEX, "scope", above);
        }
        x.refused(Check.BAD_STATE, "scope", 0);
        x.refused(Check.BAD_STATE, "scope", 15);
    }

    private static void promise3Offset() {
        check.promise(3, WORDS);
        Asked x = new Asked(check);
        for (int land : new int[] {-1, 4, MIN, MAX}) {
            for (int offset : new int[] {-12, 13, MIN, MAX}) {
                x.refused(Check.NO_INDEX, "offset", land, offset);
            }
        }
    }

    private static void promise4Feast() {
        check.promise(4, WORDS);
        Asked x = new Asked(check);
        for (int land : new int[] {-1, 4, MIN, MAX}) {
            for (int day : new int[] {-2, 29, MIN, MAX}) {
                x.refused(Check.NO_INDEX, "feast", land, day);
            }
        }
    }

    private static void promise5Pass() {
        check.promise(5, WORDS);
        Asked x = new Asked(check);
        x.passTo(571);
        x.refused(Check.BAD_ARGUMENT, "pass", 101);
        x.passTo(671);
        x.refused(Check.BAD_ARGUMENT, "pass", 101);
        x.refused(Check.BAD_ARGUMENT, "pass", MAX);
        x.refused(Check.BAD_STATE, "pass", 100);
        x.refused(Check.BAD_STATE, "pass", 1);
    }

    private static void promise7Once() {
        check.promise(7, WORDS);
        for (Asked x : new Asked[] {new Asked(check), withTwentyFreezes()}) {
            for (int scope : new int[] {-1, 1, 16, MIN, MAX}) {
                x.refused(Check.NO_INDEX, "once", scope, 0, 1, 1);
                x.refused(Check.NO_INDEX, "once", scope, -1, 1, 1);
                x.refused(Check.NO_INDEX, "once", scope, 0, 673, 1);
                x.refused(Check.NO_INDEX, "once", scope, 0, 1, 4);
                x.refused(Check.NO_INDEX, "once", scope, 672, 672, 0);
            }
            x.refused(Check.BAD_ARGUMENT, "once", 0, -1, 1, 1);
            x.refused(Check.BAD_ARGUMENT, "once", 0, 672, 673, 1);
            x.refused(Check.BAD_ARGUMENT, "once", 0, 5, 5, 1);
            x.refused(Check.BAD_ARGUMENT, "once", 0, 5, 673, 1);
            x.refused(Check.BAD_ARGUMENT, "once", 0, 0, 1, 0);
            x.refused(Check.BAD_ARGUMENT, "once", 0, 0, 1, 4);
        }
        withTwentyFreezes().refused(Check.BAD_STATE, "once", 0, 0, 1, 1);
    }

    private static void promise8Daily() {
        check.promise(8, WORDS);
        for (Asked x : new Asked[] {new Asked(check), withTwentyFreezes()}) {
            for (int wrong : new int[] {-1, 16, MIN, MAX}) {
                x.refused(Check.NO_INDEX, "daily", wrong, 0, 0, 1, 1);
                x.refused(Check.NO_INDEX, "daily", wrong, 0, 24, 1, 1);
                x.refused(Check.NO_INDEX, "daily", wrong, 0, 0, 24, 1);
                x.refused(Check.NO_INDEX, "daily", wrong, 0, 0, 1, 4);
                x.refused(Check.NO_INDEX, "daily", 0, wrong, 0, 1, 1);
                x.refused(Check.NO_INDEX, "daily", 0, wrong, -1, 1, 1);
                x.refused(Check.NO_INDEX, "daily", 0, wrong, 0, -1, 1);
                x.refused(Check.NO_INDEX, "daily", 0, wrong, 0, 1, 0);
                x.refused(Check.NO_INDEX, "daily", wrong, wrong, -1, -1, 0);
            }
            x.refused(Check.BAD_ARGUMENT, "daily", 0, 0, -1, 1, 1);
            x.refused(Check.BAD_ARGUMENT, "daily", 0, 0, 24, 1, 1);
            x.refused(Check.BAD_ARGUMENT, "daily", 0, 0, 1, -1, 1);
            x.refused(Check.BAD_ARGUMENT, "daily", 0, 0, 1, 24, 1);
            x.refused(Check.BAD_ARGUMENT, "daily", 0, 0, 0, 1, 0);
            x.refused(Check.BAD_ARGUMENT, "daily", 0, 0, 0, 1, 4);
        }
        withTwentyFreezes().refused(Check.BAD_STATE, "daily", 0, 0, 0, 1, 1);
    }

    private static void promise9Feasts() {
        check.promise(9, WORDS);
        for (Asked x : new Asked[] {new Asked(check), withTwentyFreezes()}) {
            for (int wrong : new int[] {-1, 16, MIN, MAX}) {
                x.refused(Check.NO_INDEX, "feasts", wrong, 0, 1);
                x.refused(Check.NO_INDEX, "feasts", wrong, 0, 4);
                x.refused(Check.NO_INDEX, "feasts", 0, wrong, 1);
                x.refused(Check.NO_INDEX, "feasts", 0, wrong, 0);
                x.refused(Check.NO_INDEX, "feasts", wrong, wrong, 0);
            }
            x.refused(Check.BAD_ARGUMENT, "feasts", 0, 0, 0);
            x.refused(Check.BAD_ARGUMENT, "feasts", 0, 0, 4);
        }
        withTwentyFreezes().refused(Check.BAD_STATE, "feasts", 0, 0, 1);
    }

    private static void promise11Holding() {
        check.promise(11, WORDS);
        Asked x = new Asked(check);
        for (int scope : new int[] {-1, 1, 16, MIN, MAX}) {
            for (int hour : new int[] {-1, 672, MIN, MAX}) {
                x.refused(Check.NO_INDEX, "holding", scope, hour);
            }
        }
    }

    private static void promise13NextSpan() {
        check.promise(13, WORDS);
        Asked x = new Asked(check);
        for (int scope : new int[] {-1, 1, 16, MIN, MAX}) {
            x.refused(Check.NO_INDEX, "nextSpan", scope, -1, 1);
            x.refused(Check.NO_INDEX, "nextSpan", scope, 672, 1);
            x.refused(Check.NO_INDEX, "nextSpan", scope, 0, 0);
            x.refused(Check.NO_INDEX, "nextSpan", scope, 0, 101);
            x.refused(Check.NO_INDEX, "nextSpan", scope, MAX, MAX);
        }
    }

    private static void promise14Plan() {
        check.promise(14, WORDS);
        Asked full = new Asked(check);
        for (int change = 0; change < 30; change++) {
            full.done("plan", 0, 5, 1, 1);
        }
        Asked empty = new Asked(check);
        for (Asked x : new Asked[] {empty, full}) {
            x.passTo(5);
            for (int scope : new int[] {-1, 1, 16, MIN, MAX}) {
                x.refused(Check.NO_INDEX, "plan", scope, 5, 1, 1);
                x.refused(Check.NO_INDEX, "plan", scope, 4, 1, 1);
                x.refused(Check.NO_INDEX, "plan", scope, 5, 0, 1);
                x.refused(Check.NO_INDEX, "plan", scope, 5, 1, 4);
                x.refused(Check.NO_INDEX, "plan", scope, MAX, MAX, MAX);
            }
            x.refused(Check.BAD_ARGUMENT, "plan", 0, 4, 1, 1);
            x.refused(Check.BAD_ARGUMENT, "plan", 0, 672, 1, 1);
            x.refused(Check.BAD_ARGUMENT, "plan", 0, 573, 100, 1);
            x.refused(Check.BAD_ARGUMENT, "plan", 0, 5, 0, 1);
            x.refused(Check.BAD_ARGUMENT, "plan", 0, 5, 101, 1);
            x.refused(Check.BAD_ARGUMENT, "plan", 0, 5, 1, 0);
            x.refused(Check.BAD_ARGUMENT, "plan", 0, 5, 1, 4);
        }
        full.refused(Check.BAD_STATE, "plan", 0, 5, 1, 1);
    }

    private static void promise15Move() {
        check.promise(15, WORDS);
        Asked x = new Asked(check);
        x.passTo(5);
        x.begun(0, 10);
        for (int change : new int[] {-1, 1, 30, MIN, MAX}) {
            for (int from : new int[] {-1, 4, 672, MIN, MAX}) {
                x.refused(Check.NO_INDEX, "move", change, from);
            }
        }
        for (int from : new int[] {4, 663, MIN, MAX}) {
            x.refused(Check.BAD_ARGUMENT, "move", 0, from);
        }
        x.refused(Check.BAD_STATE, "move", 0, 5);
        x.refused(Check.BAD_STATE, "move", 0, 662);
        x.passTo(15);
        x.due(FrostCalendar.DONE, "state", 0);
        for (int from : new int[] {5, 14, 663, MIN, MAX}) {
            x.refused(Check.BAD_ARGUMENT, "move", 0, from);
        }
        x.refused(Check.BAD_STATE, "move", 0, 15);
        x.refused(Check.BAD_STATE, "move", 0, 662);
    }

    /** A change that there is not has no state, so one exception alone applies to each of these. */
    private static void promises16And17ApproveAndBegin() {
        Asked x = new Asked(check);
        x.begun(0, 10);
        check.promise(16, WORDS);
        x.refused(Check.NO_INDEX, "approve", 1);
        x.refused(Check.BAD_STATE, "approve", 0);
        check.promise(17, WORDS);
        x.refused(Check.NO_INDEX, "begin", 1);
        x.refused(Check.BAD_STATE, "begin", 0);
    }

    private static void promise22Excuse() {
        check.promise(22, WORDS);
        Asked x = new Asked(check);
        x.done("exceptions", 1, 1);
        x.done("once", 0, 0, 1, 1);
        x.done("once", 0, 5, 9, 1);
        x.done("plan", 0, 0, 1, 1);
        x.done("excuse", 0, 0);
        x.done("lift", 0);
        for (int change : new int[] {-1, 1, 30, MIN, MAX}) {
            for (int freeze : new int[] {-1, 0, 1, 2, 20, MIN, MAX}) {
                x.refused(Check.NO_INDEX, "excuse", change, freeze);
            }
        }
        // Excused already, were it there, and without an exception that could be spent.
        x.refused(Check.NO_ELEMENT, "excuse", 0, 0);
        for (int freeze : new int[] {-1, 2, 20, MIN, MAX}) {
            x.refused(Check.NO_ELEMENT, "excuse", 0, freeze);
        }
        x.refused(Check.BAD_STATE, "excuse", 0, 1);
    }
}
