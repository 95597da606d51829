/** TIME, from its first minute to its last. */
public final class TermsTimeTest {
    public static void main(String[] args) {
        Due due = new Due();
        due.by("TIME is in minutes, 0 .. 99,999");
        theFirstMinute(due);
        theLastMinute(due);
        lastMinuteToEndAt(due);
        toldAtTheFirstMinute(due);
        toldAtTheLastMinute(due);
        askedAtTheLastMinute(due);
        due.end();
    }

    private static void holds(Due due, ClosureRows x, int t, boolean want) {
        due.is("a closure's reason at " + t, x.reason(0, 1, t, 0), want ? 0 : -1);
    }

    private static void theFirstMinute(Due due) {
        for (int kind = Due.WORKS; kind <= Due.SLOW; kind++) {
            ClosureRows x = Rows.holding(kind, 0, 1);
            holds(due, x, 0, true);
            holds(due, x, 1, !Due.hasEnd(kind));
            ClosureRows next = Rows.holding(kind, 1, 2);
            holds(due, next, 0, false);
            holds(due, next, 1, true);
            due.is("closed(0, 1, 0) by kind " + kind, x.closed(0, 1, 0), kind != Due.SLOW);
            due.is("minutes(0, 1, 0, 1) by kind " + kind, x.minutes(0, 1, 0, 1), kind == Due.SLOW ? 0 : 1);
            due.is("speed(0, 1, 0) by kind " + kind, x.speed(0, 1, 0), kind == Due.SLOW ? 7 : 100);
        }
    }

    private static void theLastMinute(Due due) {
        for (int kind : new int[] {Due.SCENE, Due.FLOOD}) {
            for (int from : new int[] {0, 99_998, 99_999}) {
                ClosureRows x = Rows.holding(kind, from, 0);
                holds(due, x, 99_999, true);
                holds(due, x, 99_998, from < 99_999);
                due.is("closed(0, 1, 99999)", x.closed(0, 1, 99_999), true);
                due.is("opens(0, 1, 99999)", x.opens(0, 1, 99_999), -1);
                due.is("opens(1, 1, 99999)", x.opens(1, 1, 99_999), 99_999);
            }
        }
    }

    private static void lastMinuteToEndAt(Due due) {
        for (int kind : new int[] {Due.WORKS, Due.EVENT, Due.CROSSING, Due.SLOW}) {
            for (int from : new int[] {0, 99_997, 99_998}) {
                ClosureRows x = Rows.holding(kind, from, 99_999);
                holds(due, x, 99_999, false);
                holds(due, x, 99_998, true);
                holds(due, x, 99_997, from < 99_998);
                due.is("opens(0, 1, 99998)", x.opens(0, 1, 99_998), kind == Due.SLOW ? 99_998 : 99_999);
                due.is("minutes(0, 1, 99998, 99999)", x.minutes(0, 1, 99_998, 99_999), kind == Due.SLOW ? 0 : 1);
            }
        }
    }

    private static void toldAtTheFirstMinute(Due due) {
        ClosureRows x = new ClosureRows();
        x.step(0, 0, 1);
        x.close(Due.WORKS, 0, 1, 0, 1, 0);
        due.notice(x, 0, 0, 0, 1, 1, 0);
        due.is("tick(1)", x.tick(1), 1);
        due.notice(x, 1, 0, 0, 1, 0, 1);
    }

    private static void toldAtTheLastMinute(Due due) {
        ClosureRows x = new ClosureRows();
        x.step(0, 0, 1);
        x.step(0, 1, 2);
        x.close(Due.WORKS, 0, 1, 99_998, 99_999, 0);
        x.close(Due.FLOOD, 1, 2, 99_999, 0, 0);
        for (int n = 0; n < 49; n++) {
            due.is("tick(2000)", x.tick(2_000), 0);
        }
        due.is("tick(1999)", x.tick(1_999), 3);
        due.notice(x, 0, 0, 0, 1, 1, 99_998);
        due.notice(x, 1, 0, 0, 1, 0, 99_999);
        due.notice(x, 2, 0, 1, 2, 1, 99_999);
        due.is("blocked(0) at the last minute", x.blocked(0), 1);
        x.close(Due.FLOOD, 0, 1, 99_999, 0, 0);
        due.notice(x, 3, 0, 0, 1, 1, 99_999);
        x.lift(1, 0);
        x.lift(1, 1);
        due.notice(x, 4, 0, 1, 2, 0, 99_999);
        due.notices(x, 5);
    }

    private static void askedAtTheLastMinute(Due due) {
        ClosureRows x = Rows.late();
        due.is("works gone", x.closed(0, 1, 999), true);
        due.is("works at their end", x.closed(0, 1, 1_000), false);
        due.is("a scene holds", x.closed(58, 1, 99_999), true);
        x.incident(0, false);
        due.is("a scene holds never", x.closed(58, 1, 0), false);
        x.incident(0, true);
        due.is("lift of the scene", x.lift(Rows.SCENE_OPEN, 0), true);
        due.is("up to the last minute", x.closed(58, 1, 99_998), true);
        due.is("the last minute itself not", x.closed(58, 1, 99_999), false);
    }
}
