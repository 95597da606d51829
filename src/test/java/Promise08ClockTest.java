public final class Promise08ClockTest {
    public static void main(String[] args) {
        Due due = new Due();
        fromFirstToLast(due);
        onlyTickMovesIt(due);
        due.end();
    }

    private static void fromFirstToLast(Due due) {
        due.by("the CLOCK is 0 at first, and goes on by tick()");
        ClosureRows x = new ClosureRows();
        due.is("clock()", x.clock(), 0);
        due.is("clock(), asked again", x.clock(), 0);
        x.tick(1);
        due.is("clock(), a minute on", x.clock(), 1);
        for (int n = 1; n < 50; n++) {
            x.tick(2_000);
            due.is("clock(), 2,000 on", x.clock(), 1 + 2_000 * n);
        }
        x.tick(1_998);
        due.is("clock(), the last minute", x.clock(), 99_999);
    }

    private static void onlyTickMovesIt(Due due) {
        due.by("goes on by tick()");
        ClosureRows x = Rows.busy();
        due.is("clock()", x.clock(), 50);
        x.close(Due.WORKS, 0, 1, 60, 70, 0);
        x.answer(Rows.EVENT_ASKED, true);
        x.lift(Rows.FLOOD_ON, 1);
        x.lift(Rows.FLOOD_ON, 2);
        x.incident(0, false);
        x.step(0, 0, 1);
        x.step(0, -1, 1);
        x.closed(0, 1, 99_999);
        x.minutes(0, 1, 0, 2_000);
        x.opens(0, 1, 60);
        x.reason(0, 1, 70, 0);
        x.speed(0, 1, 80);
        x.notice(0, 4);
        x.blocked(0);
        due.is("clock(), after other calls", x.clock(), 50);
        due.refuses("tick(0)", Due.RANGE, () -> x.tick(0));
        due.refuses("tick(2001)", Due.RANGE, () -> x.tick(2_001));
        due.is("clock(), after refusals", x.clock(), 50);
    }
}
