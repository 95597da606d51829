public final class Promise01NewObjectTest {
    public static void main(String[] args) {
        Due due = new Due();
        nothingClosed(due);
        theClockIsZero(due);
        nothingElseIsThere(due);
        noIncidentIsOpen(due);
        objectsAreApart(due);
        due.end();
    }

    private static void nothingClosed(Due due) {
        due.by("Nothing closed");
        for (int t : new int[] {0, 1, 99_999}) {
            ClosureRows x = new ClosureRows();
            for (int piece = 0; piece < 60; piece++) {
                for (int side = 1; side <= 2; side++) {
                    String at = "(" + piece + ", " + side + ", " + t + ")";
                    due.is("closed" + at, x.closed(piece, side, t), false);
                    due.is("reason" + at, x.reason(piece, side, t, 0), -1);
                    due.is("speed" + at, x.speed(piece, side, t), 100);
                    due.is("opens" + at, x.opens(piece, side, t), t);
                }
            }
        }
    }

    private static void theClockIsZero(Due due) {
        due.by("the clock is 0");
        due.is("clock()", new ClosureRows().clock(), 0);
    }

    private static void nothingElseIsThere(Due due) {
        due.by("A new object");
        due.refuses("answer(0, true)", Due.UNKNOWN, Rows::fresh, x -> x.answer(0, true));
        due.refuses("lift(0, 0)", Due.UNKNOWN, Rows::fresh, x -> x.lift(0, 0));
        due.refuses("notice(0, 0)", Due.UNKNOWN, Rows::fresh, x -> x.notice(0, 0));
        ClosureRows x = new ClosureRows();
        for (int unit = 0; unit < 10; unit++) {
            due.is("blocked(" + unit + ")", x.blocked(unit), 0);
            due.is("the first step of unit " + unit, x.step(unit, 0, 1), 1);
        }
        due.is("the first closure", x.close(Due.WORKS, 0, 1, 0, 1, 0), 0);
    }

    private static void noIncidentIsOpen(Due due) {
        due.by("INCIDENTS 0 .. 19 are open or not (not, at first).");
        ClosureRows x = new ClosureRows();
        for (int i = 0; i < 20; i++) {
            x.close(Due.SCENE, i, 1, 0, 0, i);
            due.is("closed by incident " + i, x.closed(i, 1, 0), false);
        }
    }

    private static void objectsAreApart(Due due) {
        due.by("A new object");
        ClosureRows one = new ClosureRows();
        ClosureRows other = new ClosureRows();
        one.close(Due.WORKS, 4, 1, 0, 9, 0);
        one.tick(5);
        due.is("the other's clock()", other.clock(), 0);
        due.is("the other's closed(4, 1, 0)", other.closed(4, 1, 0), false);
    }
}
