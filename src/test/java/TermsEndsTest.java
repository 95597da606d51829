/** Up to which minute a closure holds: its end, or its lifting. */
public final class TermsEndsTest {
    private static final int[] WITH_END = {Due.WORKS, Due.EVENT, Due.CROSSING, Due.SLOW};
    private static final int[] TO_LIFT = {Due.WORKS, Due.EVENT, Due.SCENE, Due.FLOOD, Due.SLOW};

    public static void main(String[] args) {
        Due due = new Due();
        theEndItselfNot(due);
        theEndAsTheClockMeetsIt(due);
        theLiftingItselfNot(due);
        liftedAsUnitsSeeIt(due);
        holdOnAsTheyAreNow(due);
        aSceneNotOpenHoldsNever(due);
        due.end();
    }

    private static void holdsFromTo(Due due, ClosureRows x, int kind, int from, int to) {
        boolean shuts = kind != Due.SLOW;
        for (int t = 5; t <= 25; t++) {
            boolean holds = t >= from && t < to;
            String at = " of kind " + kind + " (" + from + " .. " + to + ") at " + t;
            due.is("reason" + at, x.reason(0, 1, t, 0), holds ? 0 : -1);
            due.is("reason, side 2" + at, x.reason(0, 2, t, 0), holds ? 0 : -1);
            due.is("closed" + at, x.closed(0, 1, t), holds && shuts);
            due.is("speed" + at, x.speed(0, 2, t), holds && !shuts ? 7 : 100);
            due.is("minutes" + at, x.minutes(0, 1, t, t + 1), holds && shuts ? 1 : 0);
            due.is("opens" + at, x.opens(0, 1, t), holds && shuts ? to : t);
        }
        due.is("minutes of kind " + kind, x.minutes(0, 1, 0, 100), shuts ? Math.max(0, to - from) : 0);
    }

    private static void theEndItselfNot(Due due) {
        due.by("from a minute on, up to an end (the end itself not)");
        for (int kind : WITH_END) {
            for (int to : new int[] {11, 12, 20}) {
                holdsFromTo(due, Rows.holding(kind, 10, to), kind, 10, to);
            }
        }
    }

    private static void theEndAsTheClockMeetsIt(Due due) {
        due.by("up to an end (the end itself not)");
        for (int kind : WITH_END) {
            int told = kind == Due.SLOW ? 0 : 1;
            ClosureRows x = Rows.holding(kind, 10, 12);
            due.is("tick(9) of kind " + kind, x.tick(9), 0);
            due.is("blocked before, kind " + kind, x.blocked(0), 0);
            due.is("to its first minute, kind " + kind, x.tick(1), told);
            due.is("blocked at first, kind " + kind, x.blocked(0), told);
            due.is("to its last minute, kind " + kind, x.tick(1), 0);
            due.is("blocked at last, kind " + kind, x.blocked(0), told);
            due.is("to its end, kind " + kind, x.tick(1), told);
            due.is("blocked at its end, kind " + kind, x.blocked(0), 0);
            due.is("beyond, kind " + kind, x.tick(2_000), 0);
        }
    }

    private static void theLiftingItselfNot(Due due) {
        due.by("it holds up to that minute (itself not) only");
        for (int kind : TO_LIFT) {
            for (int clock : new int[] {1, 9, 10, 11, 12, 18, 19}) {
                ClosureRows x = Rows.holding(kind, 10, 20);
                x.tick(clock);
                if (kind == Due.FLOOD) {
                    due.is("the first word", x.lift(0, 0), false);
                }
                due.is("kind " + kind + " lifted at " + clock, x.lift(0, 1), true);
                holdsFromTo(due, x, kind, 10, clock);
                x.tick(1);
                due.is("still so a minute on", x.reason(0, 1, clock, 0), -1);
            }
        }
    }

    private static void liftedAsUnitsSeeIt(Due due) {
        due.by("it holds up to that minute (itself not) only");
        for (int kind : new int[] {Due.WORKS, Due.EVENT, Due.SCENE}) {
            for (int clock : new int[] {9, 10, 19}) {
                ClosureRows x = Rows.holding(kind, 10, 20);
                int told = x.tick(clock);
                due.is("blocked before the lifting at " + clock, x.blocked(0), told);
                x.lift(0, 1);
                due.is("blocked at the lifting at " + clock, x.blocked(0), 0);
                due.notices(x, 2 * told);
                due.is("nothing is told of its end", x.tick(20), 0);
            }
        }
    }

    private static void holdOnAsTheyAreNow(Due due) {
        due.by("Scenes and floods hold on as they are now when a minute to come is asked about");
        for (int kind : new int[] {Due.SCENE, Due.FLOOD}) {
            ClosureRows x = Rows.holding(kind, 10, 0);
            for (int t : new int[] {10, 11, 2_010, 99_998, 99_999}) {
                due.is("kind " + kind + " at " + t, x.closed(0, 1, t), true);
            }
            due.is("kind " + kind + ", before it begins", x.closed(0, 1, 9), false);
            due.is("opens, kind " + kind, x.opens(0, 1, 10), -1);
        }
    }

    private static void aSceneNotOpenHoldsNever(Due due) {
        due.by("a scene whose incident is not open holds never");
        ClosureRows x = Rows.holding(Due.SCENE, 10, 0);
        x.tick(20);
        due.is("open, a minute gone", x.closed(0, 1, 15), true);
        x.incident(7, false);
        for (int t : new int[] {0, 9, 10, 19, 20, 21, 99_999}) {
            due.is("not open, at " + t, x.closed(0, 1, t), false);
            due.is("not open, reason at " + t, x.reason(0, 1, t, 0), -1);
        }
        due.is("not open, lifted still", x.lift(0, 0), true);
        x.incident(7, true);
        due.is("lifted when not open: up to its lifting", x.closed(0, 1, 19), true);
        due.is("lifted when not open: its lifting not", x.closed(0, 1, 20), false);
    }
}
