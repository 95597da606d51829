public final class Promise01NewObjectTest {
    public static void main(String[] args) {
        Due due = new Due();
        ClosureRows x = new ClosureRows();
        due.is("clock()", x.clock(), 0);
        for (int piece = 0; piece < 60; piece++) {
            for (int side = 1; side <= 2; side++) {
                String at = piece + ", " + side;
                due.is("closed(" + at + ", 0)", x.closed(piece, side, 0), false);
                due.is("closed(" + at + ", 99999)", x.closed(piece, side, 99_999), false);
                due.is("reason(" + at + ", 0, 0)", x.reason(piece, side, 0, 0), -1);
                due.is("speed(" + at + ", 0)", x.speed(piece, side, 0), 100);
            }
        }
        for (int unit = 0; unit < 10; unit++) {
            due.is("blocked(" + unit + ")", x.blocked(unit), 0);
        }
        due.notices(x, 0);
        due.refuses("answer(0, true)", Due.UNKNOWN, () -> x.answer(0, true));
        noIncidentIsOpen(due);
        objectsAreApart(due);
        due.end();
    }

    private static void noIncidentIsOpen(Due due) {
        ClosureRows x = new ClosureRows();
        for (int i = 0; i < 20; i++) {
            x.close(Due.SCENE, i, 1, 0, 0, i);
            due.is("closed by incident " + i, x.closed(i, 1, 0), false);
        }
    }

    private static void objectsAreApart(Due due) {
        ClosureRows one = new ClosureRows();
        ClosureRows other = new ClosureRows();
        one.close(Due.WORKS, 4, 1, 0, 9, 0);
        one.tick(5);
        due.is("the other's clock()", other.clock(), 0);
        due.is("the other's closed(4, 1, 0)", other.closed(4, 1, 0), false);
    }
}
