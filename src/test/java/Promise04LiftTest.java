public final class Promise04LiftTest {
    public static void main(String[] args) {
        Due due = new Due();
        eachKindButTwo(due);
        bySomebody(due);
        floodsByTwo(due);
        aWordIsOfOneFlood(due);
        beforeItBegins(due);
        unknown(due);
        wasLifted(due);
        aCrossing(due);
        endNotAboveTheClock(due);
        withoutAnEnd(due);
        unitsAreTold(due);
        due.end();
    }

    private static void eachKindButTwo(Due due) {
        due.by("A closure is lifted now");
        ClosureRows x = new ClosureRows();
        x.close(Due.WORKS, 0, 3, 2, 50, 0);
        x.close(Due.EVENT, 1, 3, 2, 50, 0);
        x.close(Due.SCENE, 2, 3, 2, 0, 0);
        x.close(Due.SLOW, 3, 3, 2, 50, 40);
        x.answer(1, true);
        x.incident(0, true);
        x.tick(10);
        for (int n = 0; n < 4; n++) {
            due.is("lift(" + n + ", 5)", x.lift(n, 5), true);
            for (int t : new int[] {1, 2, 9, 10, 11, 49}) {
                boolean holds = t >= 2 && t < 10;
                due.is("reason(" + n + ", 1, " + t + ", 0)", x.reason(n, 1, t, 0), holds ? n : -1);
                due.is("closed(" + n + ", 1, " + t + ")", x.closed(n, 1, t), holds && n != 3);
            }
        }
        due.is("slow up to its lifting", x.speed(3, 2, 9), 40);
        due.is("slow from its lifting on", x.speed(3, 2, 10), 100);
        x.incident(0, false);
        x.incident(0, true);
        due.is("a lifted scene stays lifted", x.closed(2, 1, 10), false);
    }

    private static void bySomebody(Due due) {
        due.by("by somebody (0 .. 999)");
        int[] closures = {
            Rows.WORKS_ON, Rows.EVENT_ASKED, Rows.EVENT_ALLOWED, Rows.EVENT_FORBIDDEN, Rows.SCENE_OPEN,
            Rows.SCENE_SHUT, Rows.FLOOD_ON, Rows.FLOOD_WITH_A_WORD, Rows.SLOW_ON,
        };
        for (int closure : closures) {
            for (int by : Due.beside(0, 999)) {
                due.refuses("lift(" + closure + ", " + by + ")", Due.RANGE, Rows::busy, x -> x.lift(closure, by));
            }
            for (int by : new int[] {0, 999}) {
                due.is("lift(" + closure + ", " + by + ")", Rows.busy().lift(closure, by), closure != Rows.FLOOD_ON);
            }
        }
    }

    private static void floodsByTwo(Due due) {
        due.by("the first one's word is kept (false), another one's lifts it (true; the same one's again is false)");
        for (int first : new int[] {0, 1, 998, 999}) {
            for (int other : new int[] {0, 1, 998, 999}) {
                if (first != other) {
                    floodByTwo(due, first, other);
                }
            }
        }
    }

    private static void floodByTwo(Due due, int first, int other) {
        ClosureRows x = new ClosureRows();
        x.close(Due.FLOOD, 7, 1, 0, 0, 0);
        x.tick(3);
        due.is("the first one's word", x.lift(0, first), false);
        due.is("the same one's again", x.lift(0, first), false);
        due.is("still closed", x.closed(7, 1, 3), true);
        x.tick(3);
        due.is("the same one's later", x.lift(0, first), false);
        due.is("another one's", x.lift(0, other), true);
        due.is("up to its lifting", x.closed(7, 1, 5), true);
        due.is("from its lifting on", x.closed(7, 1, 6), false);
        for (int by : new int[] {first, other, 5}) {
            due.refuses("lifted, then " + by, Due.STATE, () -> x.lift(0, by));
        }
    }

    private static void aWordIsOfOneFlood(Due due) {
        due.by("a flood by two different ones");
        ClosureRows x = new ClosureRows();
        x.close(Due.FLOOD, 7, 1, 0, 0, 0);
        x.close(Due.FLOOD, 7, 1, 0, 0, 0);
        due.is("lift(0, 3)", x.lift(0, 3), false);
        due.is("lift(1, 4)", x.lift(1, 4), false);
        due.is("lift(1, 3)", x.lift(1, 3), true);
        due.is("lift(0, 4)", x.lift(0, 4), true);
    }

    private static void beforeItBegins(Due due) {
        due.by("it holds up to that minute (itself not) only");
        for (int kind : new int[] {Due.WORKS, Due.EVENT, Due.SCENE, Due.FLOOD, Due.SLOW}) {
            ClosureRows x = new ClosureRows();
            x.incident(7, true);
            x.close(kind, 7, 1, 20, 30, 7);
            if (kind == Due.EVENT) {
                x.answer(0, true);
            }
            x.tick(5);
            if (kind == Due.FLOOD) {
                x.lift(0, 2);
            }
            due.is("lift(0, 1)", x.lift(0, 1), true);
            for (int t : new int[] {4, 5, 19, 20, 29}) {
                due.is("it holds never, kind " + kind + ", at " + t, x.reason(7, 1, t, 0), -1);
            }
            due.refuses("lift again", Due.STATE, () -> x.lift(0, 3));
        }
    }

    private static void unknown(Due due) {
        due.by("Unknown: no such closure");
        for (int closure : Due.beside(0, Rows.BUSY_CLOSURES - 1)) {
            due.refuses("lift(" + closure + ", 0)", Due.UNKNOWN, Rows::busy, x -> x.lift(closure, 0));
        }
        due.refuses("lift(100, 0)", Due.UNKNOWN, Rows::full, x -> x.lift(100, 0));
        ClosureRows x = new ClosureRows();
        for (int n = 0; n < 100; n++) {
            int next = n;
            due.refuses("lift(" + n + ", 0), not there yet", Due.UNKNOWN, () -> x.lift(next, 0));
            x.close(Due.WORKS, 0, 1, 0, 5, 0);
            due.is("lift(" + n + ", 0)", x.lift(n, 0), true);
        }
    }

    private static void wasLifted(Due due) {
        due.by("state: it was lifted");
        for (int by : new int[] {0, 3, 7, 8, 999}) {
            due.refuses("works, by " + by, Due.STATE, Rows::busy, x -> x.lift(Rows.WORKS_LIFTED, by));
            due.refuses("a flood, by " + by, Due.STATE, Rows::busy, x -> x.lift(Rows.FLOOD_LIFTED, by));
        }
        int[] closures = {Rows.WORKS_ON, Rows.EVENT_ASKED, Rows.SCENE_OPEN, Rows.SCENE_SHUT, Rows.SLOW_ON};
        for (int closure : closures) {
            ClosureRows x = Rows.busy();
            due.is("lift(" + closure + ", 7)", x.lift(closure, 7), true);
            due.refuses("lifted this minute: " + closure, Due.STATE, () -> x.lift(closure, 8));
            x.tick(1);
            due.refuses("lifted a minute ago: " + closure, Due.STATE, () -> x.lift(closure, 8));
        }
        ClosureRows x = new ClosureRows();
        x.close(Due.WORKS, 0, 1, 0, 9, 0);
        due.is("lifted at minute 0", x.lift(0, 1), true);
        due.refuses("again at minute 0", Due.STATE, () -> x.lift(0, 1));
        due.is("it holds never", x.minutes(0, 1, 0, 20), 0);
    }

    private static void aCrossing(Due due) {
        due.by("state: .. it is a crossing");
        due.refuses("on", Due.STATE, Rows::busy, x -> x.lift(Rows.CROSSING_ON, 0));
        due.refuses("gone", Due.STATE, Rows::late, x -> x.lift(Rows.CROSSING_ON, 999));
        ClosureRows x = new ClosureRows();
        for (int timetable : new int[] {100, 101, 9_900, 9_999}) {
            int closure = x.close(Due.CROSSING, 0, 1, 10, 20, timetable);
            due.refuses("to come, timetable " + timetable, Due.STATE, () -> x.lift(closure, 0));
        }
        due.is("it holds still", x.minutes(0, 1, 0, 100), 10);
    }

    private static void endNotAboveTheClock(Due due) {
        due.by("state: .. or has an end that is not above the clock");
        due.refuses("works that end now", Due.STATE, Rows::busy, x -> x.lift(Rows.WORKS_ENDED, 1));
        int[] kinds = {Due.WORKS, Due.EVENT, Due.SLOW};
        for (int kind : kinds) {
            ClosureRows x = new ClosureRows();
            for (int end = 9; end <= 11; end++) {
                x.close(kind, 0, 1, 0, end, 50);
                if (kind == Due.EVENT) {
                    x.answer(end - 9, true);
                }
            }
            x.tick(10);
            due.refuses("its end is gone, kind " + kind, Due.STATE, () -> x.lift(0, 1));
            due.refuses("its end is the clock, kind " + kind, Due.STATE, () -> x.lift(1, 1));
            due.is("its end is above the clock, kind " + kind, x.lift(2, 1), true);
            due.is("its last minute, kind " + kind, x.reason(0, 1, 9, 0), 1);
            due.is("its last minute, kind " + kind + ", lifted", x.reason(0, 1, 9, 1), 2);
            due.is("the minute of its lifting, kind " + kind, x.reason(0, 1, 10, 0), -1);
        }
        ClosureRows late = Rows.late();
        late.close(Due.WORKS, 0, 1, 0, 99_999, 0);
        due.refuses("its end is the last minute", Due.STATE, () -> late.lift(Rows.BUSY_CLOSURES, 1));
    }

    private static void withoutAnEnd(Due due) {
        due.by("Of a scene, a flood to does not matter");
        ClosureRows x = Rows.late();
        due.is("a scene at the last minute", x.lift(Rows.SCENE_OPEN, 1), true);
        due.is("a flood at the last minute", x.lift(Rows.FLOOD_ON, 1), false);
        due.is("a flood at the last minute, the other one", x.lift(Rows.FLOOD_ON, 2), true);
        due.is("a flood with a word", x.lift(Rows.FLOOD_WITH_A_WORD, 7), false);
        due.is("a flood with a word, the other one", x.lift(Rows.FLOOD_WITH_A_WORD, 6), true);
    }

    private static void unitsAreTold(Due due) {
        due.by("behind each call that changes closures, incidents or answers (at the clock's minute)");
        ClosureRows x = new ClosureRows();
        x.step(9, 59, 2);
        x.close(Due.FLOOD, 59, 3, 0, 0, 0);
        x.tick(7);
        x.lift(0, 1);
        due.notices(x, 1);
        x.lift(0, 2);
        due.notices(x, 2);
        due.notice(x, 0, 9, 59, 2, 1, 0);
        due.notice(x, 1, 9, 59, 2, 0, 7);
        x.close(Due.SLOW, 59, 3, 0, 50, 50);
        x.lift(1, 1);
        due.notices(x, 2);
    }
}
