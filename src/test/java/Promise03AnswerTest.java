public final class Promise03AnswerTest {
    public static void main(String[] args) {
        Due due = new Due();
        allowedOrNot(due);
        answeredAtEachMinute(due);
        unknown(due);
        noEvent(due);
        wasAnswered(due);
        unitsAreTold(due);
        aLiftedEventIsAnsweredStill(due);
        due.end();
    }

    private static void allowedOrNot(Due due) {
        due.by("An event is allowed, or not");
        ClosureRows x = new ClosureRows();
        x.close(Due.EVENT, 8, 1, 10, 20, 0);
        x.close(Due.EVENT, 8, 2, 10, 20, 0);
        due.is("before the answer", x.closed(8, 1, 10), false);
        due.is("reason before the answer", x.reason(8, 1, 10, 0), -1);
        x.answer(0, true);
        x.answer(1, false);
        due.is("allowed, before it begins", x.closed(8, 1, 9), false);
        due.is("allowed, its first minute", x.closed(8, 1, 10), true);
        due.is("allowed, its last minute", x.closed(8, 1, 19), true);
        due.is("allowed, its end", x.closed(8, 1, 20), false);
        due.is("not allowed", x.minutes(8, 2, 0, 100), 0);
        due.is("reason, not allowed", x.reason(8, 2, 10, 0), -1);
    }

    private static void answeredAtEachMinute(Due due) {
        due.by("1 AN EVENT: likewise, but only when it was allowed (by answer())");
        for (int clock : new int[] {9, 10, 19, 20, 21}) {
            ClosureRows x = new ClosureRows();
            x.step(4, 8, 2);
            x.close(Due.EVENT, 8, 2, 10, 20, 0);
            due.is("tick(" + clock + ") without an answer", x.tick(clock), 0);
            x.answer(0, true);
            boolean now = clock >= 10 && clock < 20;
            due.is("closed now at " + clock, x.closed(8, 2, clock), now);
            due.notices(x, now ? 1 : 0);
            due.is("its minutes, answered at " + clock, x.minutes(8, 2, 0, 2_000), 10);
        }
    }

    private static void unknown(Due due) {
        due.by("Unknown: no such closure");
        for (boolean yes : new boolean[] {true, false}) {
            for (int closure : Due.beside(0, Rows.BUSY_CLOSURES - 1)) {
                due.refuses("answer(" + closure + ")", Due.UNKNOWN, Rows::busy, x -> x.answer(closure, yes));
            }
            due.refuses("answer(100)", Due.UNKNOWN, Rows::full, x -> x.answer(100, yes));
        }
        ClosureRows x = new ClosureRows();
        for (int n = 0; n < 100; n++) {
            int next = n;
            due.refuses("answer(" + n + "), not there yet", Due.UNKNOWN, () -> x.answer(next, true));
            x.close(Due.EVENT, n % 60, 1 + n / 60, 0, 5, 0);
            x.answer(n, true);
            due.is("answered: " + n, x.closed(n % 60, 1 + n / 60, 0), true);
        }
    }

    private static void noEvent(Due due) {
        due.by("state: it is no event");
        int[] others = {
            Rows.WORKS_ON, Rows.SCENE_OPEN, Rows.SCENE_SHUT, Rows.FLOOD_ON, Rows.FLOOD_LIFTED, Rows.CROSSING_ON,
            Rows.SLOW_ON, Rows.WORKS_ENDED, Rows.WORKS_LIFTED,
        };
        for (int closure : others) {
            due.refuses("answer(" + closure + ", true)", Due.STATE, Rows::busy, x -> x.answer(closure, true));
            due.refuses("answer(" + closure + ", false)", Due.STATE, Rows::busy, x -> x.answer(closure, false));
        }
    }

    private static void wasAnswered(Due due) {
        due.by("once .. state: .. or was answered");
        for (boolean again : new boolean[] {true, false}) {
            due.refuses("allowed, then " + again, Due.STATE, Rows::busy, x -> x.answer(Rows.EVENT_ALLOWED, again));
            due.refuses("not allowed, then " + again, Due.STATE, Rows::busy,
                    x -> x.answer(Rows.EVENT_FORBIDDEN, again));
        }
        ClosureRows x = Rows.busy();
        x.answer(Rows.EVENT_ASKED, true);
        due.refuses("answered just now", Due.STATE, () -> x.answer(Rows.EVENT_ASKED, false));
        due.is("allowed it stays", x.closed(0, 2, 50), true);
    }

    private static void unitsAreTold(Due due) {
        due.by("behind each call that changes closures, incidents or answers (at the clock's minute)");
        ClosureRows x = new ClosureRows();
        x.step(4, 8, 2);
        x.tick(15);
        x.close(Due.EVENT, 8, 2, 10, 20, 0);
        due.notices(x, 0);
        x.answer(0, true);
        due.notices(x, 1);
        due.notice(x, 0, 4, 8, 2, 1, 15);
        x.close(Due.EVENT, 8, 1, 10, 20, 0);
        x.answer(1, false);
        due.notices(x, 1);
    }

    private static void aLiftedEventIsAnsweredStill(Due due) {
        due.by("what was lifted holds up to its lifting");
        ClosureRows x = new ClosureRows();
        x.close(Due.EVENT, 8, 1, 0, 20, 0);
        x.tick(5);
        due.is("lift(0, 0)", x.lift(0, 0), true);
        x.answer(0, true);
        due.is("up to its lifting", x.closed(8, 1, 4), true);
        due.is("from its lifting on", x.closed(8, 1, 5), false);
    }
}
