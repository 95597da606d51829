/** Every row is full, and every call goes through all of it. */
public final class FullRowsTest {
    public static void main(String[] args) {
        Due due = new Due();
        ClosureRows x = fullRows();
        due.refuses("close", Due.NO_ROOM, () -> x.close(Due.WORKS, 0, 1, 0, 1, 0));
        due.refuses("step", Due.NO_ROOM, () -> x.step(9, 0, 1));
        due.refuses("answer", Due.STATE, () -> x.answer(99, true));
        due.refuses("lift", Due.STATE, () -> x.lift(99, 0));
        due.refuses("lift of closure 100", Due.UNKNOWN, () -> x.lift(100, 0));
        x.incident(19, true);
        due.is("tick(2000)", x.tick(2000), 120 * 2000);
        due.is("clock()", x.clock(), 2000);
        due.is("closed now", x.closed(59, 2, 2000), false);
        due.is("closed before", x.closed(59, 2, 1999), true);
        due.is("minutes", x.minutes(59, 2, 0, 2000), 1000);
        due.is("opens", x.opens(59, 2, 1999), 2000);
        due.is("reason, the last", x.reason(59, 2, 1999, 39), 99);
        due.is("reason, one more", x.reason(59, 2, 1999, 40), -1);
        due.is("speed", x.speed(59, 2, 1999), 100);
        due.is("blocked, no step of it", x.blocked(9), 0);
        due.is("closed at the end", x.closed(59, 2, 99_999), false);
        due.refuses("notice, not kept", Due.UNKNOWN, () -> x.notice(239_899, 0));
        due.notice(x, 239_900, 0, 50, 1, 0, 2000);
        due.notice(x, 239_999, 9, 59, 2, 0, 2000);
        due.notices(x, 240_000);
        due.is("tick(1)", x.tick(1), 120);
        due.is("blocked, each step", x.blocked(9), 12);
        due.end();
    }

    /** Crossings that turn each minute, 40 of them on side 2 of piece 59, and ten routes over them. */
    private static ClosureRows fullRows() {
        ClosureRows x = new ClosureRows();
        for (int n = 0; n < 100; n++) {
            x.close(Due.CROSSING, Math.min(n, 59), n == 59 ? 1 : 3, 1, 99_999, 201);
        }
        for (int unit = 0; unit < 10; unit++) {
            for (int n = 0; n < 12; n++) {
                x.step(unit, 48 + n, 1 + n % 2);
            }
        }
        return x;
    }
}
